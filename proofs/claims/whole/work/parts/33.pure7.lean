/-! an order read by the model, in a shorter form -/
def r4 (N : Nat → Int32) (Z : Nat → Nat → Int32) (x : Int32) : Nat → Nat → Int32 := zu (zu (zu (zu Z 0 6 (sp_X6_signAt N Z x)) 0 5 (x + (1 : Int32))) 0 7 (-1 : Int32)) 0 8 (-1 : Int32)
def rfin (N : Nat → Int32) (Z : Nat → Nat → Int32) : Int32 × (Nat → Nat → Int32) := if sp_X6_signAt N Z (Z 0 5) = (59 : Int32) then ((1 : Int32), zu Z 0 5 ((Z 0 5) + (1 : Int32))) else ((0 : Int32), Z)
def rnum (k : Nat) (N : Nat → Int32) (Z : Nat → Nat → Int32) : Nat → Nat → Int32 := zu (sp_X6_number N Z).2 0 k (sp_X6_number N Z).1
def rtwo (N : Nat → Int32) (Z : Nat → Nat → Int32) : Int32 × (Nat → Nat → Int32) :=
  if sp_X6_signAt N Z (Z 0 5) = (44 : Int32) then (if rnum 8 N (zu Z 0 5 ((Z 0 5) + (1 : Int32))) 0 8 = (-1 : Int32) then ((0 : Int32), rnum 8 N (zu Z 0 5 ((Z 0 5) + (1 : Int32)))) else rfin N (rnum 8 N (zu Z 0 5 ((Z 0 5) + (1 : Int32)))))
  else ((0 : Int32), zu (zu Z 0 5 ((Z 0 5) + (1 : Int32))) 0 8 (-1 : Int32))
def rdM (N : Nat → Int32) (Z : Nat → Nat → Int32) (x : Int32) : Int32 × (Nat → Nat → Int32) :=
  if sp_X6_signAt N Z x = (119 : Int32) then rfin N (r4 N Z x)
  else if sp_X6_signAt N Z x = (114 : Int32) then (if rnum 7 N (r4 N Z x) 0 7 = (-1 : Int32) then ((0 : Int32), rnum 7 N (r4 N Z x)) else rfin N (rnum 7 N (r4 N Z x)))
  else if sp_X6_signAt N Z x = (112 : Int32) ∨ sp_X6_signAt N Z x = (109 : Int32) ∨ sp_X6_signAt N Z x = (120 : Int32) then (if rnum 7 N (r4 N Z x) 0 7 = (-1 : Int32) then ((0 : Int32), rnum 7 N (r4 N Z x)) else rtwo N (rnum 7 N (r4 N Z x)))
  else ((0 : Int32), r4 N Z x)
theorem r4_6 {N : Nat → Int32} {Z : Nat → Nat → Int32} {x : Int32} : r4 N Z x 0 6 = sp_X6_signAt N Z x := by
  unfold r4
  rw [zq (Or.inr (by decide)), zq (Or.inr (by decide)), zq (Or.inr (by decide))]
  exact zqs
theorem r4_ok {N : Nat → Int32} {Z : Nat → Nat → Int32} {x : Int32} (hty : tyZ Z) (h0 : 0 ≤ x.toInt) (h60 : x.toInt ≤ 60) : okT 61 (r4 N Z x) := okT_z8 (okT_z7 (okT_s6 hty h0 h60))
theorem nm_q {N : Nat → Int32} {Z : Nat → Nat → Int32} {b : Int} (h : okT b Z) {c k : Nat} (hq : c ≠ 0 ∨ k ≠ 5) : (sp_X6_number N Z).2 c k = Z c k := (nm_l (N := N) 4 0 0 Z h.1 h.2.2).1 c k hq
theorem rnum_q {N : Nat → Int32} {Z : Nat → Nat → Int32} {b : Int} {j : Nat} (h : okT b Z) {c k : Nat} (hq : c ≠ 0 ∨ k ≠ 5) (hj : c ≠ 0 ∨ k ≠ j) : rnum j N Z c k = Z c k := by
  unfold rnum
  rw [zq hj]
  exact nm_q h hq
theorem rd_eq {N : Nat → Int32} {Z : Nat → Nat → Int32} {x : Int32} (hty : tyZ Z) (h0 : 0 ≤ x.toInt) (h60 : x.toInt ≤ 60) : sp_X6_reads N Z x = rdM N Z x := by
  have h4 := r4_ok (N := N) hty h0 h60
  have e6 := @r4_6 N Z x
  have e7 : rnum 7 N (r4 N Z x) 0 6 = sp_X6_signAt N Z x := (rnum_q h4 (Or.inr (by decide)) (Or.inr (by decide))).trans e6
  have e8 : ∀ Y : Nat → Nat → Int32, zu Y 0 8 (-1 : Int32) 0 8 = (-1 : Int32) := fun Y => zqs
  unfold rdM
  by_cases c119 : sp_X6_signAt N Z x = (119 : Int32)
  · have f6 : r4 N Z x 0 6 = (119 : Int32) := e6.trans c119
    have n112 : ¬ r4 N Z x 0 6 = (112 : Int32) := by rw [f6]; decide
    have n109 : ¬ r4 N Z x 0 6 = (109 : Int32) := by rw [f6]; decide
    have n120 : ¬ r4 N Z x 0 6 = (120 : Int32) := by rw [f6]; decide
    have n114 : ¬ r4 N Z x 0 6 = (114 : Int32) := by rw [f6]; decide
    rw [if_pos c119]
    unfold sp_X6_reads
    refine (if_neg n112).trans ?_; refine (if_neg n109).trans ?_; refine (if_neg n120).trans ?_; refine (if_neg n114).trans ?_; refine (if_pos f6).trans ?_; refine (if_pos f6).trans ?_; refine (if_pos f6).trans ?_
    rfl
  · have f119 : ¬ r4 N Z x 0 6 = (119 : Int32) := by rw [e6]; exact c119
    have g119 : ¬ rnum 7 N (r4 N Z x) 0 6 = (119 : Int32) := by rw [e7]; exact c119
    rw [if_neg c119]
    by_cases c114 : sp_X6_signAt N Z x = (114 : Int32)
    · have f6 : r4 N Z x 0 6 = (114 : Int32) := e6.trans c114
      have n112 : ¬ r4 N Z x 0 6 = (112 : Int32) := by rw [f6]; decide
      have n109 : ¬ r4 N Z x 0 6 = (109 : Int32) := by rw [f6]; decide
      have n120 : ¬ r4 N Z x 0 6 = (120 : Int32) := by rw [f6]; decide
      rw [if_pos c114]
      unfold sp_X6_reads
      refine (if_neg n112).trans ?_; refine (if_neg n109).trans ?_; refine (if_neg n120).trans ?_; refine (if_pos f6).trans ?_; refine (if_neg f119).trans ?_; refine (if_neg g119).trans ?_
      rfl
    · rw [if_neg c114]
      have n114 : ¬ r4 N Z x 0 6 = (114 : Int32) := by rw [e6]; exact c114
      by_cases c3 : sp_X6_signAt N Z x = (112 : Int32) ∨ sp_X6_signAt N Z x = (109 : Int32) ∨ sp_X6_signAt N Z x = (120 : Int32)
      · rw [if_pos c3]
        have tail : (if rnum 7 N (r4 N Z x) 0 7 = (-1 : Int32) then ((0 : Int32), rnum 7 N (r4 N Z x)) else
            if sp_X6_signAt N (rnum 7 N (r4 N Z x)) (rnum 7 N (r4 N Z x) 0 5) = (44 : Int32) then (if rnum 8 N (zu (rnum 7 N (r4 N Z x)) 0 5 ((rnum 7 N (r4 N Z x) 0 5) + (1 : Int32))) 0 8 = (-1 : Int32) then ((0 : Int32), rnum 8 N (zu (rnum 7 N (r4 N Z x)) 0 5 ((rnum 7 N (r4 N Z x) 0 5) + (1 : Int32)))) else rfin N (rnum 8 N (zu (rnum 7 N (r4 N Z x)) 0 5 ((rnum 7 N (r4 N Z x) 0 5) + (1 : Int32)))))
            else if zu (zu (rnum 7 N (r4 N Z x)) 0 5 ((rnum 7 N (r4 N Z x) 0 5) + (1 : Int32))) 0 8 (-1 : Int32) 0 8 = (-1 : Int32) then ((0 : Int32), zu (zu (rnum 7 N (r4 N Z x)) 0 5 ((rnum 7 N (r4 N Z x) 0 5) + (1 : Int32))) 0 8 (-1 : Int32)) else rfin N (zu (zu (rnum 7 N (r4 N Z x)) 0 5 ((rnum 7 N (r4 N Z x) 0 5) + (1 : Int32))) 0 8 (-1 : Int32))) =
            (if rnum 7 N (r4 N Z x) 0 7 = (-1 : Int32) then ((0 : Int32), rnum 7 N (r4 N Z x)) else rtwo N (rnum 7 N (r4 N Z x))) := by
          rw [if_pos (e8 _)]
          rfl
        refine Eq.trans ?_ tail
        unfold sp_X6_reads
        by_cases d1 : sp_X6_signAt N Z x = (112 : Int32)
        · have f6 : r4 N Z x 0 6 = (112 : Int32) := e6.trans d1
          refine (if_pos f6).trans ?_; refine (if_neg f119).trans ?_; refine (if_neg g119).trans ?_
          rfl
        · have n112 : ¬ r4 N Z x 0 6 = (112 : Int32) := by rw [e6]; exact d1
          by_cases d2 : sp_X6_signAt N Z x = (109 : Int32)
          · have f6 : r4 N Z x 0 6 = (109 : Int32) := e6.trans d2
            refine (if_neg n112).trans ?_; refine (if_pos f6).trans ?_; refine (if_neg f119).trans ?_; refine (if_neg g119).trans ?_
            rfl
          · have n109 : ¬ r4 N Z x 0 6 = (109 : Int32) := by rw [e6]; exact d2
            have f6 : r4 N Z x 0 6 = (120 : Int32) := e6.trans ((c3.resolve_left d1).resolve_left d2)
            refine (if_neg n112).trans ?_; refine (if_neg n109).trans ?_; refine (if_pos f6).trans ?_; refine (if_neg f119).trans ?_; refine (if_neg g119).trans ?_
            rfl
      · rw [if_neg c3]
        have n112 : ¬ r4 N Z x 0 6 = (112 : Int32) := by rw [e6]; exact fun q => c3 (Or.inl q)
        have n109 : ¬ r4 N Z x 0 6 = (109 : Int32) := by rw [e6]; exact fun q => c3 (Or.inr (Or.inl q))
        have n120 : ¬ r4 N Z x 0 6 = (120 : Int32) := by rw [e6]; exact fun q => c3 (Or.inr (Or.inr q))
        unfold sp_X6_reads
        refine (if_neg n112).trans ?_; refine (if_neg n109).trans ?_; refine (if_neg n120).trans ?_; refine (if_neg n114).trans ?_; refine (if_neg f119).trans ?_
        rfl
