/-! orders done one after the other -/
theorem does_k {N : Nat → Int32} {Z : Nat → Nat → Int32} (hs : sfN N) (hth : ¬ sp_X6_isThere N Z = 0) (hcan : ¬ sp_X6_can N Z = 0) : sfN (sp_X6_does N Z) ∧ sp_X6_does N Z 3 = N 3 := by
  have kk : ∀ M, k3 N M → sfN M ∧ M 3 = N 3 := fun M h => ⟨k3_sf h hs, h.2.2⟩
  unfold sp_X6_does
  by_cases h1 : Z 0 6 = (109 : Int32)
  · rw [if_pos h1]; exact kk _ (k3_goes hs (thF hs hth (by rw [h1]; decide)))
  · rw [if_neg h1]
    by_cases h2 : Z 0 6 = (112 : Int32)
    · rw [if_pos h2]; exact kk _ (k3_picks (thF hs hth (by rw [h2]; decide)))
    · rw [if_neg h2]
      by_cases h3 : Z 0 6 = (114 : Int32)
      · rw [if_pos h3]; exact kk _ (k3_brings (thF hs hth (by rw [h3]; decide)))
      · rw [if_neg h3]
        by_cases h4 : Z 0 6 = (120 : Int32)
        · rw [if_pos h4]; exact kk _ (k3_goes hs (thF hs hth (by rw [h4]; decide)))
        · rw [if_neg h4]; exact ends_k hs (canW hcan h1 h2 h3 h4)
/-- the text's place after an order that was read -/
theorem da_step {N : Nat → Int32} {Z : Nat → Nat → Int32} {v y : Int32} (hty : tyZ Z) (h0 : 0 ≤ v.toInt) (c : ¬ Z 0 1 ≤ v) (hr : ¬ (sp_X6_reads N (zu Z 0 10 v) v).1 = 0) :
    tyZ (zu (sp_X6_reads N (zu Z 0 10 v) v).2 0 9 y) ∧ 0 ≤ ((zu (sp_X6_reads N (zu Z 0 10 v) v).2 0 9 y) 0 5).toInt ∧ ((zu (sp_X6_reads N (zu Z 0 10 v) v).2 0 9 y) 0 5).toInt ≤ ((zu (sp_X6_reads N (zu Z 0 10 v) v).2 0 9 y) 0 1).toInt ∧ (∀ n : Nat, (Z 0 1).toInt - v.toInt < ((n + 1 : Nat) : Int) → ((zu (sp_X6_reads N (zu Z 0 10 v) v).2 0 9 y) 0 1).toInt - ((zu (sp_X6_reads N (zu Z 0 10 v) v).2 0 9 y) 0 5).toInt < (n : Int)) := by
  rw [le_toInt] at c
  have h60 : v.toInt ≤ 60 := by have := hty.2; omega
  have ty1 : tyZ (zu Z 0 10 v) := ty_zu (by decide) hty
  obtain ⟨q, qr⟩ := rd_p (N := N) ty1 h0 h60
  obtain ⟨r1, r2⟩ := qr hr
  have e1 : (sp_X6_reads N (zu Z 0 10 v) v).2 0 1 = Z 0 1 := (q 0 1 (Or.inr ⟨by decide, by decide, by decide, by decide⟩)).trans (zq (Or.inr (by decide)))
  have f1 : (zu (sp_X6_reads N (zu Z 0 10 v) v).2 0 9 y) 0 1 = Z 0 1 := (zq (Or.inr (by decide))).trans e1
  have f5 : (zu (sp_X6_reads N (zu Z 0 10 v) v).2 0 9 y) 0 5 = (sp_X6_reads N (zu Z 0 10 v) v).2 0 5 := zq (Or.inr (by decide))
  have g1 : (zu Z 0 10 v) 0 1 = Z 0 1 := zq (Or.inr (by decide))
  rw [g1] at r2
  refine ⟨?_, ?_, ?_, ?_⟩
  · unfold tyZ at hty ⊢
    rw [f1]; exact hty
  · rw [f5]; omega
  · rw [f5, f1]; exact r2
  · intro n hn
    rw [f5, f1]; omega
theorem da_60 {Z : Nat → Nat → Int32} {v : Int32} (hty : tyZ Z) (c : ¬ Z 0 1 ≤ v) : v.toInt ≤ 60 := by
  rw [le_toInt] at c
  have := hty.2
  omega
theorem da_0 {Z : Nat → Nat → Int32} (hty : tyZ Z) : (0 : Int32).toInt ≤ ((zu Z 0 9 (0 : Int32)) 0 1).toInt ∧ ((zu Z 0 9 (0 : Int32)) 0 1).toInt - (0 : Int32).toInt < ((61 : Nat) : Int) := by
  have e : (zu Z 0 9 (0 : Int32)) 0 1 = Z 0 1 := zq (Or.inr (by decide))
  rw [e, i0]
  have := hty.1
  have := hty.2
  omega
