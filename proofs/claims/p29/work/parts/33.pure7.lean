/-! an order read by the model, in a shorter form -/
def r4 (N : Nat → Int32) (Z : Nat → Nat → Int32) (x : Int32) : Nat → Nat → Int32 := zu (zu (zu (zu Z 0 6 (sp_X6_signAt N Z x)) 0 5 (x + (1 : Int32))) 0 7 (-1 : Int32)) 0 8 (-1 : Int32)
def rfin (N : Nat → Int32) (Z : Nat → Nat → Int32) : Int32 × (Nat → Nat → Int32) := if sp_X6_signAt N Z (Z 0 5) = (59 : Int32) then ((1 : Int32), zu Z 0 5 ((Z 0 5) + (1 : Int32))) else ((0 : Int32), Z)
def rnum (k : Nat) (N : Nat → Int32) (Z : Nat → Nat → Int32) : Nat → Nat → Int32 := zu (sp_X6_number N Z).2 0 k (sp_X6_number N Z).1
def rtwo (N : Nat → Int32) (Z : Nat → Nat → Int32) : Int32 × (Nat → Nat → Int32) :=
  if sp_X6_signAt N Z (Z 0 5) = (44 : Int32) then (if rnum 8 N (zu Z 0 5 ((Z 0 5) + (1 : Int32))) 0 8 = (-1 : Int32) then ((0 : Int32), rnum 8 N (zu Z 0 5 ((Z 0 5) + (1 : Int32)))) else rfin N (rnum 8 N (zu Z 0 5 ((Z 0 5) + (1 : Int32)))))
  else ((0 : Int32), zu (zu Z 0 5 ((Z 0 5) + (1 : Int32))) 0 8 (-1 : Int32))
def rdM (N : Nat → Int32) (Z : Nat → Nat → Int32) (x : Int32) : Int32 × (Nat → Nat → Int32) :=
  if sp_X6_signAt N Z x = (119 : Int32) then rfin N (r4 N Z x)
  else if sp_X6_signAt N Z x = (114 : Int32) then (if rnum 7 N (r4 N Z x) 0 7 = (-1 : Int32) then ((0 : Int32), rnum 7 N (r4 N Z x)) else rfin N (rnum 7 N (r4 N Z x)))
  else if sp_X6_signAt N Z x = (112 : Int32) ∨ sp_X6_signAt N Z x = (109 : Int32) ∨ sp_X6_signAt N Z x = (120 : Int32) then (if rnum 7 N (r4 N Z x) 0 7 = (-1 : Int32) then ((0 : Int32), rnum 7 N (r4 N Z x)) else rtwo N (rnum 7 N (r4 N Z x)))
  else ((0 : Int32), r4 N Z x)
theorem r4_6 {N : Nat → Int32} {Z : Nat → Nat → Int32} {x : Int32} : r4 N Z x 0 6 = sp_X6_signAt N Z x := by
  unfold r4
  rw [zq (Or.inr (by decide)), zq (Or.inr (by decide)), zq (Or.inr (by decide))]
  exact zqs
theorem r4_ok {N : Nat → Int32} {Z : Nat → Nat → Int32} {x : Int32} (hty : tyZ Z) (h0 : 0 ≤ x.toInt) (h60 : x.toInt ≤ 60) : okT 61 (r4 N Z x) := okT_z8 (okT_z7 (okT_s6 hty h0 h60))
theorem nm_q {N : Nat → Int32} {Z : Nat → Nat → Int32} {b : Int} (h : okT b Z) {c k : Nat} (hq : c ≠ 0 ∨ k ≠ 5) : (sp_X6_number N Z).2 c k = Z c k := (nm_l (N := N) 4 0 0 Z h.1 h.2.2).1 c k hq
theorem rnum_q {N : Nat → Int32} {Z : Nat → Nat → Int32} {b : Int} {j : Nat} (h : okT b Z) {c k : Nat} (hq : c ≠ 0 ∨ k ≠ 5) (hj : c ≠ 0 ∨ k ≠ j) : rnum j N Z c k = Z c k := by
  unfold rnum
  rw [zq hj]
  exact nm_q h hq
theorem rd_eq {N : Nat → Int32} {Z : Nat → Nat → Int32} {x : Int32} (hty : tyZ Z) (h0 : 0 ≤ x.toInt) (h60 : x.toInt ≤ 60) : sp_X6_reads N Z x = rdM N Z x := by
  have h4 := r4_ok (N := N) hty h0 h60
  have e6 := @r4_6 N Z x
  have e7 : rnum 7 N (r4 N Z x) 0 6 = sp_X6_signAt N Z x := (rnum_q h4 (Or.inr (by decide)) (Or.inr (by decide))).trans e6
  have e8 : ∀ Y : Nat → Nat → Int32, zu Y 0 8 (-1 : Int32) 0 8 = (-1 : Int32) := fun Y => zqs
  unfold rdM
  by_cases c119 : sp_X6_signAt N Z x = (119 : Int32)
  · have f6 : r4 N Z x 0 6 = (119 : Int32) := e6.trans c119
    have n112 : ¬ r4 N Z x 0 6 = (112 : Int32) := by rw [f6]; decide
    have n109 : ¬ r4 N Z x 0 6 = (109 : Int32) := by rw [f6]; decide
    have n120 : ¬ r4 N Z x 0 6 = (120 : Int32) := by rw [f6]; decide
    have n114 : ¬ r4 N Z x 0 6 = (114 : Int32) := by rw [f6]; decide
    rw [if_pos c119]
    unfold sp_X6_reads
    refine (if_neg n112).trans ?_; refine (if_neg n109).trans ?_; refine (if_neg n120).trans ?_; refine (if_neg n114).trans ?_; refine (if_pos f6).trans ?_; refine (if_pos f6).trans ?_; refine (if_pos f6).trans ?_
    rfl
  · have f119 : ¬ r4 N Z x 0 6 = (119 : Int32) := by rw [e6]; exact c119
    have g119 : ¬ rnum 7 N (r4 N Z x) 0 6 = (119 : Int32) := by rw [e7]; exact c119
    rw [if_neg c119]
    by_cases c114 : sp_X6_signAt N Z x = (114 : Int32)
    · have f6 : r4 N Z x 0 6 = (114 : Int32) := e6.trans c114
      have n112 : ¬ r4 N Z x 0 6 = (112 : Int32) := by rw [f6]; decide
      have n109 : ¬ r4 N Z x 0 6 = (109 : Int32) := by rw [f6]; decide
      have n120 : ¬ r4 N Z x 0 6 = (120 : Int32) := by rw [f6]; decide
      rw [if_pos c114]
      unfold sp_X6_reads
      refine (if_neg n112).trans ?_; refine (if_neg n109).trans ?_; refine (if_neg n120).trans ?_; refine (if_pos f6).trans ?_; refine (if_neg f119).trans ?_; refine (if_neg g119).trans ?_
      rfl
    · rw [if_neg c114]
      have n114 : ¬ r4 N Z x 0 6 = (114 : Int32) := by rw [e6]; exact c114
      by_cases c3 : sp_X6_signAt N Z x = (112 : Int32) ∨ sp_X6_signAt N Z x = (109 : Int32) ∨ sp_X6_signAt N Z x = (120 : Int32)
      · rw [if_pos c3]
        have tail : (if rnum 7 N (r4 N Z x) 0 7 = (-1 : Int32) then ((0 : Int32), rnum 7 N (r4 N Z x)) else
            if sp_X6_signAt N (rnum 7 N (r4 N Z x)) (rnum 7 N (r4 N Z x) 0 5) = (44 : Int32) then (if rnum 8 N (zu (rnum 7 N (r4 N Z x)) 0 5 ((rnum 7 N (r4 N Z x) 0 5) + (1 : Int32))) 0 8 = (-1 : Int32) then ((0 : Int32), rnum 8 N (zu (rnum 7 N (r4 N Z x)) 0 5 ((rnum 7 N (r4 N Z x) 0 5) + (1 : Int32)))) else rfin N (rnum 8 N (zu (rnum 7 N (r4 N Z x)) 0 5 ((rnum 7 N (r4 N Z x) 0 5) + (1 : Int32)))))
            else if zu (zu (rnum 7 N (r4 N Z x)) 0 5 ((rnum 7 N (r4 N Z x) 0 5) + (1 : Int32))) 0 8 (-1 : Int32) 0 8 = (-1 : Int32) then ((0 : Int32), zu (zu (rnum 7 N (r4 N Z x)) 0 5 ((rnum 7 N (r4 N Z x) 0 5) + (1 : Int32))) 0 8 (-1 : Int32)) else rfin N (zu (zu (rnum 7 N (r4 N Z x)) 0 5 ((rnum 7 N (r4 N Z x) 0 5) + (1 : Int32))) 0 8 (-1 : Int32))) =
            (if rnum 7 N (r4 N Z x) 0 7 = (-1 : Int32) then ((0 : Int32), rnum 7 N (r4 N Z x)) else rtwo N (rnum 7 N (r4 N Z x))) := by
          rw [if_pos (e8 _)]
          rfl
        refine Eq.trans ?_ tail
        unfold sp_X6_reads
        by_cases d1 : sp_X6_signAt N Z x = (112 : Int32)
        · have f6 : r4 N Z x 0 6 = (112 : Int32) := e6.trans d1
          refine (if_pos f6).trans ?_; refine (if_neg f119).trans ?_; refine (if_neg g119).trans ?_
          rfl
        · have n112 : ¬ r4 N Z x 0 6 = (112 : Int32) := by rw [e6]; exact d1
          by_cases d2 : sp_X6_signAt N Z x = (109 : Int32)
          · have f6 : r4 N Z x 0 6 = (109 : Int32) := e6.trans d2
            refine (if_neg n112).trans ?_; refine (if_pos f6).trans ?_; refine (if_neg f119).trans ?_; refine (if_neg g119).trans ?_
            rfl
          · have n109 : ¬ r4 N Z x 0 6 = (109 : Int32) := by rw [e6]; exact d2
            have f6 : r4 N Z x 0 6 = (120 : Int32) := e6.trans ((c3.resolve_left d1).resolve_left d2)
            refine (if_neg n112).trans ?_; refine (if_neg n109).trans ?_; refine (if_pos f6).trans ?_; refine (if_neg f119).trans ?_; refine (if_neg g119).trans ?_
            rfl
      · rw [if_neg c3]
        have n112 : ¬ r4 N Z x 0 6 = (112 : Int32) := by rw [e6]; exact fun q => c3 (Or.inl q)
        have n109 : ¬ r4 N Z x 0 6 = (109 : Int32) := by rw [e6]; exact fun q => c3 (Or.inr (Or.inl q))
        have n120 : ¬ r4 N Z x 0 6 = (120 : Int32) := by rw [e6]; exact fun q => c3 (Or.inr (Or.inr q))
        unfold sp_X6_reads
        refine (if_neg n112).trans ?_; refine (if_neg n109).trans ?_; refine (if_neg n120).trans ?_; refine (if_neg n114).trans ?_; refine (if_neg f119).trans ?_
        rfl
def RQ (Z Y : Nat → Nat → Int32) : Prop := ∀ c k, (c ≠ 0 ∨ (k ≠ 5 ∧ k ≠ 6 ∧ k ≠ 7 ∧ k ≠ 8)) → Y c k = Z c k
theorem RQ.rf {Z : Nat → Nat → Int32} : RQ Z Z := fun _ _ _ => rfl
theorem RQ.tr {a b c : Nat → Nat → Int32} (h1 : RQ a b) (h2 : RQ b c) : RQ a c := fun i k h => (h2 i k h).trans (h1 i k h)
theorem RQ_zu {Z : Nat → Nat → Int32} {k : Nat} {x : Int32} (hk : k = 5 ∨ k = 6 ∨ k = 7 ∨ k = 8) : RQ Z (zu Z 0 k x) := by
  intro c j h
  refine zq ?_
  rcases h with h | h
  · exact Or.inl h
  · right; omega
theorem RQ_num {N : Nat → Int32} {Z : Nat → Nat → Int32} {b : Int} (h : okT b Z) : RQ Z (sp_X6_number N Z).2 := fun c k q => nm_q h (q.imp_right (fun q => q.1))
theorem RQ_rnum {N : Nat → Int32} {Z : Nat → Nat → Int32} {b : Int} {j : Nat} (hj : j = 7 ∨ j = 8) (h : okT b Z) : RQ Z (rnum j N Z) := (RQ_num h).tr (RQ_zu (by omega))
theorem RQ_r4 {N : Nat → Int32} {Z : Nat → Nat → Int32} {x : Int32} : RQ Z (r4 N Z x) := (((RQ_zu (by omega)).tr (RQ_zu (by omega))).tr (RQ_zu (by omega))).tr (RQ_zu (by omega))
theorem nm_lo {N : Nat → Int32} {Z : Nat → Nat → Int32} {b : Int} (h : okT b Z) : (Z 0 5).toInt ≤ ((sp_X6_number N Z).2 0 5).toInt := (nm_l (N := N) 4 0 0 Z h.1 h.2.2).2.1
theorem rnum_lo {N : Nat → Int32} {Z : Nat → Nat → Int32} {b : Int} {j : Nat} (hj : 5 ≠ j) (h : okT b Z) : (Z 0 5).toInt ≤ (rnum j N Z 0 5).toInt := by
  unfold rnum
  rw [zq (Or.inr hj)]
  exact nm_lo h
theorem rnum7_ok {N : Nat → Int32} {Z : Nat → Nat → Int32} (h : okT 61 Z) : okT 61 (rnum 7 N Z) := okT_z7 (okT_n61 h)
theorem rnum8_ok {N : Nat → Int32} {Z : Nat → Nat → Int32} (h : okT 62 Z) : okT 62 (rnum 8 N Z) := okT_z8 (okT_n62 h)
theorem rfin_p {N : Nat → Int32} {Y : Nat → Nat → Int32} {b x : Int} (hb : b ≤ 1000) (h : okT b Y) (hx : x < (Y 0 5).toInt) : RQ Y (rfin N Y).2 ∧ (¬ (rfin N Y).1 = 0 → x < ((rfin N Y).2 0 5).toInt ∧ ((rfin N Y).2 0 5).toInt ≤ (Y 0 1).toInt) := by
  unfold rfin
  by_cases c : sp_X6_signAt N Y (Y 0 5) = (59 : Int32)
  · rw [if_pos c]
    have hlt := sgn_lt (by decide) c
    have e : (zu Y 0 5 ((Y 0 5) + (1 : Int32)) 0 5).toInt = (Y 0 5).toInt + 1 := by rw [zqs]; exact inc_toInt hlt
    rw [le_toInt] at hlt
    refine ⟨RQ_zu (Or.inl rfl), fun _ => ?_⟩
    show x < (zu Y 0 5 ((Y 0 5) + (1 : Int32)) 0 5).toInt ∧ (zu Y 0 5 ((Y 0 5) + (1 : Int32)) 0 5).toInt ≤ (Y 0 1).toInt
    rw [e]
    omega
  · rw [if_neg c]
    exact ⟨RQ.rf, fun q => absurd rfl q⟩
theorem rd_p {N : Nat → Int32} {Z : Nat → Nat → Int32} {x : Int32} (hty : tyZ Z) (h0 : 0 ≤ x.toInt) (h60 : x.toInt ≤ 60) : RQ Z (sp_X6_reads N Z x).2 ∧ (¬ (sp_X6_reads N Z x).1 = 0 → x.toInt < ((sp_X6_reads N Z x).2 0 5).toInt ∧ ((sp_X6_reads N Z x).2 0 5).toInt ≤ (Z 0 1).toInt) := by
  rw [rd_eq hty h0 h60]
  have h4 := r4_ok (N := N) hty h0 h60
  have a4 : x.toInt < (r4 N Z x 0 5).toInt := by
    unfold r4
    rw [zq (Or.inr (by decide)), zq (Or.inr (by decide)), zqs, add_toInt (by rw [show (1 : Int32).toInt = 1 from by decide]; omega) (by rw [show (1 : Int32).toInt = 1 from by decide]; omega)]
    exact Int.lt_succ x.toInt
  have t4 : ∀ Y, RQ Z Y → Y 0 1 = Z 0 1 := fun Y q => q 0 1 (Or.inr ⟨by decide, by decide, by decide, by decide⟩)
  have fin : ∀ Y, RQ Z Y → ∀ b : Int, b ≤ 1000 → okT b Y → x.toInt < (Y 0 5).toInt → RQ Z (rfin N Y).2 ∧ (¬ (rfin N Y).1 = 0 → x.toInt < ((rfin N Y).2 0 5).toInt ∧ ((rfin N Y).2 0 5).toInt ≤ (Z 0 1).toInt) := by
    intro Y hq b hb hy hx
    obtain ⟨q1, q2⟩ := rfin_p (N := N) hb hy hx
    refine ⟨hq.tr q1, fun q => ?_⟩
    rw [← t4 Y hq]
    exact q2 q
  have no : ∀ Y, RQ Z Y → RQ Z ((0 : Int32), Y).2 ∧ (¬ ((0 : Int32), Y).1 = 0 → x.toInt < (((0 : Int32), Y).2 0 5).toInt ∧ (((0 : Int32), Y).2 0 5).toInt ≤ (Z 0 1).toInt) := fun Y q => ⟨q, fun h => absurd rfl h⟩
  have q4 : RQ Z (r4 N Z x) := RQ_r4
  have q7 : RQ Z (rnum 7 N (r4 N Z x)) := q4.tr (RQ_rnum (Or.inl rfl) h4)
  have h7 := rnum7_ok (N := N) h4
  have a7 : x.toInt < (rnum 7 N (r4 N Z x) 0 5).toInt := Int.lt_of_lt_of_le a4 (rnum_lo (by decide) h4)
  unfold rdM
  by_cases c1 : sp_X6_signAt N Z x = (119 : Int32)
  · rw [if_pos c1]; exact fin _ q4 61 (by decide) h4 a4
  · rw [if_neg c1]
    by_cases c2 : sp_X6_signAt N Z x = (114 : Int32)
    · rw [if_pos c2]
      by_cases c3 : rnum 7 N (r4 N Z x) 0 7 = (-1 : Int32)
      · rw [if_pos c3]; exact no _ q7
      · rw [if_neg c3]; exact fin _ q7 61 (by decide) h7 a7
    · rw [if_neg c2]
      by_cases c4 : sp_X6_signAt N Z x = (112 : Int32) ∨ sp_X6_signAt N Z x = (109 : Int32) ∨ sp_X6_signAt N Z x = (120 : Int32)
      · rw [if_pos c4]
        by_cases c3 : rnum 7 N (r4 N Z x) 0 7 = (-1 : Int32)
        · rw [if_pos c3]; exact no _ q7
        · rw [if_neg c3]
          have h8 := okT_i62 h7
          have q8 : RQ Z (zu (rnum 7 N (r4 N Z x)) 0 5 ((rnum 7 N (r4 N Z x) 0 5) + (1 : Int32))) := q7.tr (RQ_zu (Or.inl rfl))
          have a8 : x.toInt < (zu (rnum 7 N (r4 N Z x)) 0 5 ((rnum 7 N (r4 N Z x) 0 5) + (1 : Int32)) 0 5).toInt := by
            have g1 := h7.2.1
            have g0 := h7.1
            rw [zqs, add_toInt (by rw [show (1 : Int32).toInt = 1 from by decide]; omega) (by rw [show (1 : Int32).toInt = 1 from by decide]; omega)]
            exact Int.lt_trans a7 (Int.lt_succ _)
          unfold rtwo
          by_cases c5 : sp_X6_signAt N (rnum 7 N (r4 N Z x)) (rnum 7 N (r4 N Z x) 0 5) = (44 : Int32)
          · rw [if_pos c5]
            have q11 := q8.tr (RQ_rnum (N := N) (j := 8) (Or.inr rfl) h8)
            by_cases c6 : rnum 8 N (zu (rnum 7 N (r4 N Z x)) 0 5 ((rnum 7 N (r4 N Z x) 0 5) + (1 : Int32))) 0 8 = (-1 : Int32)
            · rw [if_pos c6]; exact no _ q11
            · rw [if_neg c6]; exact fin _ q11 62 (by decide) (rnum8_ok h8) (Int.lt_of_lt_of_le a8 (rnum_lo (by decide) h8))
          · rw [if_neg c5]; exact no _ (q8.tr (RQ_zu (by omega)))
      · rw [if_neg c4]; exact no _ q4
