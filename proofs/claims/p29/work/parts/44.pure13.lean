/-! what bestGoing names can go -/
def bgP (N G : Nat → Int32) (v : Int32) : Prop := v = (-4 : Int32) ∨ ∃ g s : Nat, g < 20 ∧ s < 60 ∧ v = nI (g * 60 + s) ∧ ¬ sp_X4_canGo N G (nI g) (nI s) = 0
theorem bg_mk {N G : Nat → Int32} {x y : Int32} (hx : vp_in x 20) (hy : vp_in y 60) (h : ¬ sp_X4_canGo N G x y = 0) : bgP N G ((x * (60 : Int32)) + y) := by
  obtain ⟨g, hg, rfl⟩ := vp_in_of hx (by decide)
  obtain ⟨s, hs, rfl⟩ := vp_in_of hy (by decide)
  refine Or.inr ⟨g, s, hg, hs, ?_, h⟩
  rw [show (60 : Int32) = nI 60 from rfl, pk_mul, nI_add]
theorem i60 : (60 : Int32).toInt = 60 := by decide
theorem bg_in {N G : Nat → Int32} {v3 : Int32} (hv3 : vp_in v3 20) {K : Int32 → Int32 → Int32 → Int32} (hK : ∀ v1 v2, bgP N G v1 → bgP N G (K v1 v2 (v3 + (1 : Int32)))) : ∀ (n : Nat) (v1 v2 v4 : Int32), 0 ≤ v4.toInt → v4.toInt ≤ (60 : Int32).toInt → (60 : Int32).toInt - v4.toInt < (n : Int) → bgP N G v1 → bgP N G (lp18_X4_bestGoing N G v3 K n v1 v2 v4) := by
  intro n
  induction n with
  | zero => intro v1 v2 v4 _ h5 hm _; exfalso; omega
  | succ n ih =>
    intro v1 v2 v4 h4 h5 hm h
    rw [lp18_X4_bestGoing_s]
    by_cases c1 : (60 : Int32) ≤ v4
    · rw [if_pos c1]; exact hK v1 v2 h
    · rw [if_neg c1]
      by_cases c2 : sp_X4_canGo N G v3 v4 = 0
      · rw [if_pos c2]; exact ih _ _ _ (cs1 h4 c1) (cs2 c1) (csm c1 hm) h
      · rw [if_neg c2]
        by_cases c3 : sp_X4_worthOfGoing N G v3 v4 ≤ v2
        · rw [if_pos c3]; exact ih _ _ _ (cs1 h4 c1) (cs2 c1) (csm c1 hm) h
        · rw [if_neg c3]; exact ih _ _ _ (cs1 h4 c1) (cs2 c1) (csm c1 hm) (bg_mk hv3 (cnin 60 rfl h4 c1) c2)
theorem bg_out {N G : Nat → Int32} (hs : sfN N) : ∀ (n : Nat) (v1 v2 v3 : Int32), 0 ≤ v3.toInt → v3.toInt ≤ (N 0).toInt → (N 0).toInt - v3.toInt < (n : Int) → bgP N G v1 → bgP N G (lp7_X4_bestGoing N G n v1 v2 v3) := by
  intro n
  induction n with
  | zero => intro v1 v2 v3 _ h5 hm _; exfalso; omega
  | succ n ih =>
    intro v1 v2 v3 h3 h5 hm h
    rw [lp7_X4_bestGoing_s]
    by_cases c1 : N 0 ≤ v3
    · rw [if_pos c1]; exact h
    · rw [if_neg c1]
      exact bg_in (cnin20 hs h3 c1) (fun a b q => ih a b _ (cs1 h3 c1) (cs2 c1) (csm c1 hm) q) 61 v1 v2 0 (by decide) (by decide) (by decide) h
theorem bg {N G : Nat → Int32} (hs : sfN N) : bgP N G (sp_X4_bestGoing N G) := bg_out hs 21 _ _ _ (by decide) (cn2 hs) (cnm hs) (Or.inl rfl)
theorem bg_nn {N G : Nat → Int32} {v : Int32} (h : bgP N G v) (c : ¬ v < 0) : ∃ g s : Nat, g < 20 ∧ s < 60 ∧ v / (60 : Int32) = nI g ∧ v - v / (60 : Int32) * (60 : Int32) = nI s ∧ ¬ sp_X4_canGo N G (nI g) (nI s) = 0 := by
  rcases h with h | ⟨g, s, hg, hs, rfl, hc⟩
  · exact absurd (show v < 0 by rw [h]; decide) c
  · refine ⟨g, s, hg, hs, ?_, ?_, hc⟩
    · rw [show (60 : Int32) = nI 60 from rfl, pk_div (by omega) (by decide) (by decide)]
      congr 1; omega
    · rw [show (60 : Int32) = nI 60 from rfl, pk_rem (by omega) (by decide) (by decide)]
      congr 1; omega
theorem bg_g {N G : Nat → Int32} {v : Int32} (h : bgP N G v) (c : ¬ v < 0) : vp_in (v / (60 : Int32)) 20 := by
  obtain ⟨g, s, hg, hs, e1, e2, -⟩ := bg_nn h c
  rw [e1]; exact vp_in_nI hg (by decide)
theorem bg_s {N G : Nat → Int32} {v : Int32} (h : bgP N G v) (c : ¬ v < 0) : vp_in (v - v / (60 : Int32) * (60 : Int32)) 60 := by
  obtain ⟨g, s, hg, hs, e1, e2, -⟩ := bg_nn h c
  rw [e2]; exact vp_in_nI hs (by decide)
theorem bg_c {N G : Nat → Int32} {v : Int32} (h : bgP N G v) (c : ¬ v < 0) : vp_in (N (22 + 11 * ix (v / (60 : Int32)))) 60 := by
  obtain ⟨g, s, hg, hs, e1, e2, hc⟩ := bg_nn h c
  rw [e1]; exact cg60 hc
theorem k3_standIn {N G : Nat → Int32} {x y : Int32} : k3 N (sp_X4_standIn N G x y).1 := k3_u (by omega)
theorem k3_goTo {N G : Nat → Int32} {x y : Int32} : k3 N (sp_X4_goTo N G x y).2.1 := by
  have h0 : ∀ a b c : Int32, k3 N (upd (upd (upd N 11 a) 7 b) 9 c) := fun a b c => k3_tr (k3_tr (k3_u (by omega)) (k3_u (by omega))) (k3_u (by omega))
  delta sp_X4_goTo
  dsimp only
  split
  · exact k3_tr (h0 _ _ _) k3_standIn
  · exact k3_tr (k3_tr (h0 _ _ _) k3_standIn) k3_standIn
theorem nl {x y : Int32} (c : ¬ x < y) : y ≤ x := by rw [lt_toInt] at c; rw [le_toInt]; omega
theorem in10a {x : Int32} (h : ¬ sp_X5_isIn x (1 : Int32) (10 : Int32) = 0) : (0 : Int32).toInt ≤ x.toInt := t10a h
theorem in10b {x : Int32} (h : ¬ sp_X5_isIn x (1 : Int32) (10 : Int32) = 0) : x.toInt - (0 : Int32).toInt < ((11 : Nat) : Int) := t10b h
theorem nn_of_ge {x : Int32} (c : (0 : Int32) ≤ x) : ¬ x < 0 := by rw [le_toInt, i0] at c; rw [lt_toInt, i0]; omega
