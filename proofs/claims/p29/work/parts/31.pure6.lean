/-! the texts of the model -/
def okT (b : Int) (Z : Nat → Nat → Int32) : Prop := 0 ≤ (Z 0 5).toInt ∧ (Z 0 5).toInt ≤ b ∧ tyZ Z
theorem okT.lo {b : Int} {Z : Nat → Nat → Int32} (h : okT b Z) : 0 ≤ (Z 0 5).toInt := h.1
theorem okT.ty {b : Int} {Z : Nat → Nat → Int32} (h : okT b Z) : tyZ Z := h.2.2
theorem okT_set {Z : Nat → Nat → Int32} {x : Int32} (hty : tyZ Z) (h0 : 0 ≤ x.toInt) (h60 : x.toInt ≤ 60) : okT 61 (zu Z 0 5 (x + (1 : Int32))) := by
  have e : (x + (1 : Int32)).toInt = x.toInt + 1 := by rw [add_toInt (by rw [show (1 : Int32).toInt = 1 from by decide]; omega) (by rw [show (1 : Int32).toInt = 1 from by decide]; omega)]; rfl
  refine ⟨?_, ?_, ty_zu (by decide) hty⟩ <;> rw [zqs, e] <;> omega
theorem okT_zu {b : Int} {Z : Nat → Nat → Int32} {k : Nat} {x : Int32} (h5 : 5 ≠ k) (h1 : 1 ≠ k) (h : okT b Z) : okT b (zu Z 0 k x) := by
  refine ⟨?_, ?_, ty_zu h1 h.2.2⟩ <;> rw [zq (Or.inr h5)]
  · exact h.1
  · exact h.2.1
theorem okT_inc {b : Int} {Z : Nat → Nat → Int32} (hb : b ≤ 1000) (h : okT b Z) : okT (b + 1) (zu Z 0 5 ((Z 0 5) + (1 : Int32))) := by
  obtain ⟨h0, h1, h2⟩ := h
  have e : ((Z 0 5) + (1 : Int32)).toInt = (Z 0 5).toInt + 1 := by rw [add_toInt (by rw [show (1 : Int32).toInt = 1 from by decide]; omega) (by rw [show (1 : Int32).toInt = 1 from by decide]; omega)]; rfl
  refine ⟨?_, ?_, ty_zu (by decide) h2⟩ <;> rw [zqs, e] <;> omega
theorem nm_l {N : Nat → Int32} : ∀ (n : Nat) (a v : Int32) (Z : Nat → Nat → Int32), 0 ≤ (Z 0 5).toInt → tyZ Z → (∀ c k, (c ≠ 0 ∨ k ≠ 5) → (lp4_X6_number N n a v Z).2 c k = Z c k) ∧ (Z 0 5).toInt ≤ ((lp4_X6_number N n a v Z).2 0 5).toInt ∧ ∀ b : Int, 60 ≤ b → (Z 0 5).toInt ≤ b → ((lp4_X6_number N n a v Z).2 0 5).toInt ≤ b := by
  intro n
  induction n with
  | zero => intro a v Z _ _; exact ⟨fun _ _ _ => rfl, Int.le_refl _, fun _ _ h => h⟩
  | succ n ih =>
    intro a v Z h0 hty
    have stay : ∀ r : Int32, (∀ c k, (c ≠ 0 ∨ k ≠ 5) → ((r, Z) : Int32 × (Nat → Nat → Int32)).2 c k = Z c k) ∧ (Z 0 5).toInt ≤ (((r, Z) : Int32 × (Nat → Nat → Int32)).2 0 5).toInt ∧ ∀ b : Int, 60 ≤ b → (Z 0 5).toInt ≤ b → (((r, Z) : Int32 × (Nat → Nat → Int32)).2 0 5).toInt ≤ b := fun r => ⟨fun _ _ _ => rfl, Int.le_refl _, fun _ _ h => h⟩
    rw [lp4_X6_number_s]
    by_cases c1 : (3 : Int32) ≤ v
    · rw [if_pos c1]
      by_cases c2 : v = 0
      · rw [if_pos c2]; exact stay _
      · rw [if_neg c2]; exact stay _
    · rw [if_neg c1]
      by_cases c3 : sp_X6_in (sp_X6_signAt N Z (Z 0 5)) (48 : Int32) (57 : Int32) = 0
      · rw [if_pos c3]
        by_cases c2 : v = 0
        · rw [if_pos c2]; exact stay _
        · rw [if_neg c2]; exact stay _
      · rw [if_neg c3]
        have hd := dig_lt c3
        have e : (zu Z 0 5 ((Z 0 5) + (1 : Int32)) 0 5).toInt = (Z 0 5).toInt + 1 := by rw [zqs]; exact inc_toInt hd
        obtain ⟨q1, q2, q3⟩ := ih (((10 : Int32) * a) + (sp_X6_signAt N Z (Z 0 5)) - (48 : Int32)) (v + (1 : Int32)) (zu Z 0 5 ((Z 0 5) + (1 : Int32))) (by rw [e]; omega) (ty_zu (by decide) hty)
        rw [e] at q2 q3
        rw [le_toInt] at hd
        have h60 := hty.2
        refine ⟨fun c k h => (q1 c k h).trans (zq h), Int.le_trans (Int.le_add_one (Int.le_refl _)) q2, fun b hb _ => q3 b hb (by omega)⟩
theorem okT_num {N : Nat → Int32} {b : Int} {Z : Nat → Nat → Int32} (hb : 60 ≤ b) (h : okT b Z) : okT b (sp_X6_number N Z).2 := by
  obtain ⟨q1, q2, q3⟩ := nm_l (N := N) 4 0 0 Z h.1 h.2.2
  refine ⟨Int.le_trans h.1 q2, q3 b hb h.2.1, ?_⟩
  have e := q1 0 1 (Or.inr (by decide))
  have := h.2.2
  unfold tyZ at this ⊢
  rw [show (sp_X6_number N Z).2 0 1 = Z 0 1 from e]
  exact this
theorem sgn_lt {N : Nat → Int32} {Z : Nat → Nat → Int32} {x k : Int32} (hk : ¬ k = 0) (h : sp_X6_signAt N Z x = k) : ¬ Z 0 1 ≤ x := by
  intro c
  have e : sp_X6_signAt N Z x = 0 := by unfold sp_X6_signAt; rw [if_pos c]
  rw [e] at h
  exact hk h.symm
/-- what a word needs -/
theorem thF {N : Nat → Int32} {Z : Nat → Nat → Int32} (hs : sfN N) (h : ¬ sp_X6_isThere N Z = 0) (hw : ¬ Z 0 6 = (119 : Int32)) : vp_in (Z 0 7) 20 := by
  unfold sp_X6_isThere at h
  rw [if_neg hw] at h
  by_cases c : sp_X6_isGood N Z (Z 0 7) = 0
  · rw [if_pos c] at h; exact absurd rfl h
  · exact m20 hs c
theorem thS {N : Nat → Int32} {Z : Nat → Nat → Int32} (hs : sfN N) (h : ¬ sp_X6_isThere N Z = 0) (hw : Z 0 6 = (120 : Int32)) : vp_in (Z 0 8) 20 := by
  unfold sp_X6_isThere at h
  have hn : ¬ Z 0 6 = (119 : Int32) := by rw [hw]; decide
  have hm : ¬ Z 0 6 = (109 : Int32) := by rw [hw]; decide
  rw [if_neg hn] at h
  by_cases c : sp_X6_isGood N Z (Z 0 7) = 0
  · rw [if_pos c] at h; exact absurd rfl h
  · rw [if_neg c, if_neg hm, if_pos hw] at h
    by_cases d : sp_X6_isGood N Z (Z 0 8) = 0
    · rw [if_pos d] at h; exact absurd rfl h
    · exact m20 hs d
theorem psq {Z Z' : Nat → Nat → Int32} (h : fq Z Z') (hp : psZ Z) : psZ Z' := by
  unfold psZ at hp ⊢
  rw [h 0 0 (Or.inr ⟨by decide, by decide, by decide⟩)]
  exact hp
theorem t10a {x : Int32} (h : ¬ sp_X6_in x (1 : Int32) (10 : Int32) = 0) : (0 : Int32).toInt ≤ x.toInt := by
  have q := min_of h
  rw [show (1 : Int32).toInt = 1 from by decide, show (10 : Int32).toInt = 10 from by decide] at q
  rw [i0]; omega
theorem t10b {x : Int32} (h : ¬ sp_X6_in x (1 : Int32) (10 : Int32) = 0) : x.toInt - (0 : Int32).toInt < ((11 : Nat) : Int) := by
  have q := min_of h
  rw [show (1 : Int32).toInt = 1 from by decide, show (10 : Int32).toInt = 10 from by decide] at q
  rw [i0]; omega
theorem okT_z6 {b : Int} {Z : Nat → Nat → Int32} {x : Int32} (h : okT b Z) : okT b (zu Z 0 6 x) := okT_zu (by decide) (by decide) h
theorem okT_z7 {b : Int} {Z : Nat → Nat → Int32} {x : Int32} (h : okT b Z) : okT b (zu Z 0 7 x) := okT_zu (by decide) (by decide) h
theorem okT_z8 {b : Int} {Z : Nat → Nat → Int32} {x : Int32} (h : okT b Z) : okT b (zu Z 0 8 x) := okT_zu (by decide) (by decide) h
theorem okT_n61 {N : Nat → Int32} {Z : Nat → Nat → Int32} (h : okT 61 Z) : okT 61 (sp_X6_number N Z).2 := okT_num (by decide) h
theorem okT_n62 {N : Nat → Int32} {Z : Nat → Nat → Int32} (h : okT 62 Z) : okT 62 (sp_X6_number N Z).2 := okT_num (by decide) h
theorem okT_i62 {Z : Nat → Nat → Int32} (h : okT 61 Z) : okT 62 (zu Z 0 5 ((Z 0 5) + (1 : Int32))) := okT_inc (b := 61) (by decide) h
theorem okT_s6 {Z : Nat → Nat → Int32} {x y : Int32} (hty : tyZ Z) (h0 : 0 ≤ x.toInt) (h60 : x.toInt ≤ 60) : okT 61 (zu (zu Z 0 6 y) 0 5 (x + (1 : Int32))) := okT_set (ty_zu (by decide) hty) h0 h60
theorem gt0 {x : Int32} (h : ¬ x ≤ 0) : 0 < x := by
  rw [le_toInt, i0] at h
  rw [lt_toInt, i0]
  omega
