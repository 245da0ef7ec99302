/-! PURE: a text tried: class and model -/
section PQ
variable {N M G S V U : Nat → Int32} {z y : Int32} {Z : Nat → Nat → Int32} {b : Int}
theorem hgs_5 {W : Nat → va_H} {q I : Nat → Int32} {k x w : Int32} : sp_X5_hasGoodsAndSlots W S q V z U y I k x w = hgs (W 5).2.1 (W 5).2.2 k x w := rfl
theorem dor_5 {W : Nat → va_H} {q I : Nat → Int32} {k x w : Int32} : sp_X5_doOrder W S q V z U y I k x w = ((dor (W 5).2.1 (W 5).2.2 k x w).1, w5 W (dor (W 5).2.1 (W 5).2.2 k x w).2.1 (dor (W 5).2.1 (W 5).2.2 k x w).2.2) := by
  unfold sp_X5_doOrder dor
  dsimp only
  by_cases c1 : k = 109
  · rw [if_pos c1, if_pos c1]
  · rw [if_neg c1, if_neg c1]
    by_cases c2 : k = 112
    · rw [if_pos c2, if_pos c2]
    · rw [if_neg c2, if_neg c2]
      by_cases c3 : k = 114
      · rw [if_pos c3, if_pos c3]
      · rw [if_neg c3, if_neg c3]
        by_cases c4 : k = 120
        · rw [if_pos c4, if_pos c4]
        · rw [if_neg c4, if_neg c4]
theorem dor_xy {k x x' w w' : Int32} (hk : kin k) (hx : ¬ k = 119 → x = x') (hw : k = 112 ∨ k = 109 ∨ k = 120 → w = w') : dor N G k x w = dor N G k x' w' := by
  unfold dor
  rcases hk with e | e | e | e | e
  · subst e
    rw [if_neg (by decide), if_neg (by decide), if_neg (by decide), if_neg (by decide), if_neg (by decide), if_neg (by decide), if_neg (by decide), if_neg (by decide)]
  · rw [hx (by rw [e]; decide)]
    subst e
    rw [if_neg (by decide), if_neg (by decide), if_pos rfl, if_neg (by decide), if_neg (by decide), if_pos rfl]
  · rw [hx (by rw [e]; decide), hw (Or.inl e)]
  · rw [hx (by rw [e]; decide), hw (Or.inr (Or.inl e))]
  · rw [hx (by rw [e]; decide), hw (Or.inr (Or.inr e))]
theorem dor_10 {v k w : Int32} {i : Nat} (h20 : i < 20) : dor (upd N 10 v) G k (nI i) w = lf v (dor N G k (nI i) w) := by
  unfold dor
  rw [k_move, k_pick h20, k_refill, k_exch, k_week]
  by_cases c1 : k = 109
  · rw [if_pos c1, if_pos c1]
  · rw [if_neg c1, if_neg c1]
    by_cases c2 : k = 112
    · rw [if_pos c2, if_pos c2]
    · rw [if_neg c2, if_neg c2]
      by_cases c3 : k = 114
      · rw [if_pos c3, if_pos c3]
      · rw [if_neg c3, if_neg c3]
        by_cases c4 : k = 120
        · rw [if_pos c4, if_pos c4]
        · rw [if_neg c4, if_neg c4]
theorem dor_10w {v x w : Int32} : dor (upd N 10 v) G 119 x w = lf v (dor N G 119 x w) := by
  unfold dor
  rw [if_neg (by decide), if_neg (by decide), if_neg (by decide), if_neg (by decide), if_neg (by decide), if_neg (by decide), if_neg (by decide), if_neg (by decide), k_week]
/-- a row that agrees but at 10 -/
theorem of10 (h : ∀ j, j ≠ 10 → M j = N j) : M = upd N 10 (M 10) := by
  funext j
  by_cases c : j = 10
  · rw [c, pk_us]
  · rw [pk_un c, h j c]
/-- a text tried: outcome -/
def ttr (b : Int) (N : Nat → Int32) (W : Nat → va_H) (l : Int32) (I : Nat → Int32) (f5 : Int32 × ((Nat → va_H) × (Nat → Int32) × (Nat → Int32))) (f6 : Int32 × ((Nat → Int32) × (Nat → Nat → Int32))) : Prop :=
  f5.2.2.2 2 = f6.1 ∧ f5.2.2.2 0 = I 0 ∧ (¬ f6.1 = 0 → f5.2.2.2 1 = f6.2.2 0 10) ∧ (f6.1 = 0 → f5.1 = f6.2.2 0 9 ∧ ¬ f5.1 < 0 ∧ (∀ j, j ≠ 10 → (f5.2.1 5).2.1 j = f6.2.1 j) ∧ wf b f6.2.1 (f5.2.1 5).2.2) ∧ (∀ i, i ≠ 5 → f5.2.1 i = W i) ∧ (f5.2.1 5).1 = (W 5).1 ∧ f5.2.2.1 0 = l ∧ ∀ j, 236 ≤ j → f6.2.1 j = N j
theorem tt_l : ∀ (n m a : Nat) (b : Int) (W : Nat → va_H) (q I N : Nat → Int32) (Z : Nat → Nat → Int32), b + n ≤ 100000 → wf b N (W 5).2.2 → (∀ j, j ≠ 10 → (W 5).2.1 j = N j) → I 2 = 0 → q 0 = Z 0 1 → q 1 = nI a → tyZ Z → (∀ j : Nat, (j : Int) < (Z 0 1).toInt → S j = Z 3 j) → m ≤ a → (a : Int) ≤ (Z 0 1).toInt → (Z 0 1).toInt - (a : Int) < (n : Int) → Z 0 9 = nI m →
    ttr (b + n) N W (q 0) I (lp18_X5_tryText S V z U y n (nI m) W q I) (lp7_X6_doesAll n (nI a) N Z) := by
  intro n
  induction n with
  | zero => intro m a b W q I N Z _ _ _ _ _ _ _ _ _ _ h; exfalso; omega
  | succ n ih =>
    intro m a b W q I N Z hb h hM hI h0 h1 hty hS hma hat hn h9
    have h60 := hty.2
    have ha : a ≤ 60 := by omega
    rw [lp18_X5_tryText_s, lp7_X6_doesAll_s]
    dsimp only
    by_cases ca : (a : Int) = (Z 0 1).toInt
    · have c6 : Z 0 1 ≤ nI a := by rw [le_toInt, tI (by omega)]; omega
      rw [if_pos c6]
      have fin : ttr (b + ((n + 1 : Nat) : Int)) N W (q 0) I (nI m, (W, q, I)) (0, (N, Z)) := ⟨hI, rfl, fun w => absurd rfl w, fun _ => ⟨h9.symm, nI_pos (by omega), hM, h.mono (by omega)⟩, fun _ _ => rfl, rfl, rfl, fun _ _ => rfl⟩
      by_cases c : (60 : Int32) ≤ nI m
      · rw [if_pos c]; exact fin
      · rw [if_neg c]
        have ce : ¬ sp_X1_isAtEnd S q = 0 := by
          unfold sp_X1_isAtEnd
          rw [h1, h0, if_neg (lt_le c6)]
          decide
        rw [if_neg ce]; exact fin
    · have c6 : ¬ Z 0 1 ≤ nI a := by rw [le_toInt, tI (by omega)]; omega
      have c : ¬ (60 : Int32) ≤ nI m := by rw [le_toInt, tI (by omega), i60]; omega
      have ce : sp_X1_isAtEnd S q = 0 := by
        unfold sp_X1_isAtEnd
        rw [h1, h0, if_pos (nle_lt c6)]
      rw [if_neg c6, if_neg c, if_pos ce]
      have hty1 : tyZ (zu Z 0 10 (nI a)) := ty_zu (by decide) hty
      have a0' : 0 ≤ (nI a).toInt := by rw [tI (by omega)]; omega
      have a60 : (nI a).toInt ≤ 60 := by rw [tI (by omega)]; omega
      have e1 : zu Z 0 10 (nI a) 0 1 = Z 0 1 := zq (Or.inr (by decide))
      have rs := rd_s (N := N) (Z := zu Z 0 10 (nI a)) (S := S) (q := q) (v := nI a) hty1 (by rw [e1]; exact h0) h1 a0' a60 (by rw [e1, zu_n (by decide)]; exact hS)
      have rp := rd_p (N := N) (Z := zu Z 0 10 (nI a)) hty1 a0' a60
      have z10 : (sp_X6_reads N (zu Z 0 10 (nI a)) (nI a)).2 0 10 = nI a := (rp.1 0 10 (Or.inr (by decide))).trans zqs
      have z9 : (sp_X6_reads N (zu Z 0 10 (nI a)) (nI a)).2 0 9 = nI m := (rp.1 0 9 (Or.inr (by decide))).trans ((zq (Or.inr (by decide))).trans h9)
      have z1 : (sp_X6_reads N (zu Z 0 10 (nI a)) (nI a)).2 0 1 = Z 0 1 := (rp.1 0 1 (Or.inr (by decide))).trans e1
      have z3 : ∀ j, (sp_X6_reads N (zu Z 0 10 (nI a)) (nI a)).2 3 j = Z 3 j := fun j => (rp.1 3 j (Or.inl (by decide))).trans (zq (Or.inl (by decide)))
      have rp2 := rp.2
      rw [e1, tI (show a < 1000 by omega)] at rp2
      clear rp
      generalize sp_X6_reads N (zu Z 0 10 (nI a)) (nI a) = r6 at *
      generalize sp_X1_readOrder S q = r4 at *
      obtain ⟨s1, s2, s3⟩ := rs
      have u1 : ∀ t : Int32, (upd (upd I 1 (q 1)) 2 t) 1 = nI a := fun t => by rw [pk_un (by omega), pk_us]; exact h1
      have u0 : ∀ t : Int32, (upd (upd I 1 (q 1)) 2 t) 0 = I 0 := fun t => by rw [pk_un (by omega), pk_un (by omega)]
      have u2 : ∀ t : Int32, (upd (upd I 1 (q 1)) 2 t) 2 = t := fun t => pk_us
      by_cases c1 : r6.1 = 0
      · rw [if_pos c1, if_pos (s1.mpr c1), u2, if_neg (by decide : ¬ (1 : Int32) = 0)]
        exact ⟨u2 1, u0 1, fun _ => (u1 1).trans z10.symm, fun w => absurd w (by decide : ¬ (1 : Int32) = 0), fun _ _ => rfl, rfl, s3, fun _ _ => rfl⟩
      · rw [if_neg c1, if_neg (fun w => c1 (s1.mp w))]
        obtain ⟨o1, o2, o3, o4, o5⟩ := s2 c1
        obtain ⟨p1, p2⟩ := rp2 c1
        rw [hgs_5, dor_5, of10 hM, hgs_10, o2]
        have th := there (x := r4.2 3) (y := r4.2 4) h o5 o3 o4
        by_cases c2 : sp_X6_isThere N r6.2 = 0
        · rw [if_pos c2, if_pos (th.mpr c2), u2, if_neg (by decide : ¬ (2 : Int32) = 0)]
          exact ⟨u2 2, u0 2, fun _ => (u1 2).trans z10.symm, fun w => absurd w (by decide : ¬ (2 : Int32) = 0), fun _ _ => rfl, rfl, s3, fun _ _ => rfl⟩
        · rw [if_neg c2, if_neg (fun w => c2 (th.mp w)), dor_xy o5 o3 o4]
          have dd := doed (by omega) h o5 c2
          have dl : dor (upd N 10 ((W 5).2.1 10)) (W 5).2.2 (r6.2 0 6) (r6.2 0 7) (r6.2 0 8) = lf ((W 5).2.1 10) (dor N (W 5).2.2 (r6.2 0 6) (r6.2 0 7) (r6.2 0 8)) := by
            by_cases cw : r6.2 0 6 = 119
            · rw [cw]; exact dor_10w
            · obtain ⟨i, hi, ex⟩ := th_x h c2 cw
              rw [ex]; exact dor_10 (h.n20 hi)
          rw [dl]
          generalize dor N (W 5).2.2 (r6.2 0 6) (r6.2 0 7) (r6.2 0 8) = r at *
          have e5 : ∀ (A B : Nat → Int32) (i : Nat), i ≠ 5 → w5 W A B i = W i := fun A B i hi => if_neg hi
          by_cases c3 : sp_X6_can N r6.2 = 0
          · have r1 := dd.1 c3
            rw [if_pos c3, if_neg (show ¬ (0 : Int32) ≤ (lf ((W 5).2.1 10) r).1 from fun w => nn_of_ge w r1), u2, if_neg (by decide : ¬ (3 : Int32) = 0)]
            exact ⟨u2 3, u0 3, fun _ => (u1 3).trans z10.symm, fun w => absurd w (by decide : ¬ (3 : Int32) = 0), e5 _ _, rfl, s3, fun _ _ => rfl⟩
          · obtain ⟨r1, r2, r3⟩ := dd.2 c3
            have i2 : (upd I 1 (q 1)) 2 = 0 := by rw [pk_un (by omega)]; exact hI
            rw [if_neg c3, if_pos (show (0 : Int32) ≤ (lf ((W 5).2.1 10) r).1 from by rw [lt_toInt, i0] at r1; rw [le_toInt, i0]; exact Int.not_lt.mp r1), i2, if_pos rfl, nI_1]
            -- the place behind the order
            obtain ⟨k, hk, ek⟩ := nat_of (n := 60) (x := r6.2 0 5) (by omega) (by omega)
            have hk5 : (r6.2 0 5).toInt = (k : Int) := by rw [ek, tI (by omega)]
            have z95 : zu r6.2 0 9 (r6.2 0 9 + 1) 0 5 = nI k := (zq (Or.inr (by decide))).trans ek
            have z91 : zu r6.2 0 9 (r6.2 0 9 + 1) 0 1 = Z 0 1 := (zq (Or.inr (by decide))).trans z1
            have z93 : ∀ j, zu r6.2 0 9 (r6.2 0 9 + 1) 3 j = Z 3 j := fun j => (zq (Or.inl (by decide))).trans (z3 j)
            have z99 : zu r6.2 0 9 (r6.2 0 9 + 1) 0 9 = nI (m + 1) := by rw [zqs, z9, nI_1]
            rw [z95]
            have t := ih (m + 1) k (b + 1) (w5 W (lf ((W 5).2.1 10) r).2.1 (lf ((W 5).2.1 10) r).2.2) r4.2 (upd I 1 (q 1)) (sp_X6_does N r6.2) (zu r6.2 0 9 (r6.2 0 9 + 1)) (by omega) r3
              (fun j hj => by
                show upd r.2.1 10 _ j = _
                rw [pk_un hj]; exact r2 j hj) i2 (by rw [s3, z91]; exact h0) (by rw [o1.2.1]; exact ek) (by unfold tyZ; rw [z91]; exact hty) (fun j hj => by rw [z91] at hj; rw [z93]; exact hS j hj) (by omega) (by rw [z91]; omega) (by rw [z91]; omega) z99
            obtain ⟨t1, t2, t3, t4, t5, t6, t7, t8⟩ := t
            refine ⟨t1, t2.trans (pk_un (by omega)), t3, fun w => ?_, fun i hi => (t5 i hi).trans (e5 _ _ i hi), t6, t7.trans s3, fun j hj => (t8 j hj).trans (does_hi (by omega) h o5 c2 c3 hj)⟩
            obtain ⟨v1, v2, v3, v4⟩ := t4 w
            exact ⟨v1, v2, v3, wf.mono (by omega) v4⟩
/-- a text tried, from now -/
theorem tt_s {W : Nat → va_H} {q I : Nat → Int32} (hb : b ≤ 90000) (h : wf b N (W 4).2.2) (hM : ∀ j, j ≠ 10 → (W 4).2.1 j = N j) (h0 : q 0 = Z 0 1) (hty : tyZ Z) (hS : ∀ j : Nat, (j : Int) < (Z 0 1).toInt → S j = Z 3 j) :
    ttr (b + 61) N (w5 W (W 4).2.1 (W 4).2.2) (q 0) I (sp_X5_tryText W S q V z U y I) (sp_X6_doesAll N Z) := by
  unfold sp_X5_tryText sp_X6_doesAll sp_X5_startTrial sp_X1_startReading
  dsimp only
  have e1 : zu Z 0 9 (0 : Int32) 0 1 = Z 0 1 := zq (Or.inr (by decide))
  have e3 : zu Z 0 9 (0 : Int32) 3 = Z 3 := zu_n (by decide)
  have t := tt_l (S := S) (V := V) (U := U) (z := z) (y := y) 61 0 0 b (w5 W (W 4).2.1 (W 4).2.2) (upd q 1 0) (upd I 2 0) N (zu Z 0 9 (0 : Int32)) (by omega) h hM pk_us (by rw [pk_un (by omega), e1]; exact h0) pk_us (ty_zu (by decide) hty) (by rw [e1, e3]; exact hS) (by omega) (by rw [e1]; have := hty.1; omega) (by rw [e1]; have := hty.2; omega) zqs
  obtain ⟨t1, t2, t3, t4, t5, t6, t7, t8⟩ := t
  exact ⟨t1, t2.trans (pk_un (by omega)), t3, t4, t5, t6, t7.trans (pk_un (by omega)), t8⟩
end PQ
