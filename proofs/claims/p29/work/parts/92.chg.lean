/-! PURE: a call that may change something, on the whole object -/
section CX
variable {Y : Nat → va_H} {S q V : Nat → Int32} {z : Int32} {U : Nat → Int32} {y : Int32} {I N d d' : Nat → Int32} {b B : Int} {mv : Prop} {E : (Nat → Int32) → (Nat → Int32) → Int32 → Prop} {f : Int32 × ((Nat → Int32) × (Nat → Int32))}
/-- how many states there are behind a change -/
def nx4 (x : Int32) : Int32 := if x < 4 then x + 1 else 4
theorem i4 : (4 : Int32).toInt = 4 := by decide
/-- behind a change that was kept: the state before it is the last of the history -/
def kept (Y : Nat → va_H) (I : Nat → Int32) (Y' : Nat → va_H) (I' : Nat → Int32) : Prop := I' 0 = nx4 (I 0) ∧ ∃ p : Nat, p < 4 ∧ I' 0 = nI (p + 1) ∧ Y' p = Y 4
theorem keep_k (h1 : 0 ≤ (I 0).toInt) (h2 : (I 0).toInt ≤ 4) {W : Nat → va_H} (hW : ∀ i, i ≠ 5 → W i = Y i) : kept Y I (sp_X5_keepTrial W S q V z U y I).1 (sp_X5_keepTrial W S q V z U y I).2 ∧ (sp_X5_keepTrial W S q V z U y I).1 4 = W 5 := by
  obtain ⟨p, hp, e⟩ := nat_of (n := 4) h1 h2
  unfold sp_X5_keepTrial kept nx4
  by_cases c : I 0 < 4
  · have p4 : p < 4 := by rw [e, lt_toInt, tI (by omega), i4] at c; omega
    rw [if_pos c, if_pos c]
    dsimp only
    rw [pk_us, e, xI (show p < 1000 by omega), nI_1]
    refine ⟨⟨rfl, p, p4, rfl, ?_⟩, ?_⟩
    · unfold cy
      rw [if_pos rfl]
      exact hW 4 (by decide)
    · unfold cy
      rw [if_neg (by omega), if_pos rfl]
  · rw [if_neg c, if_neg c]
    dsimp only
    rw [pk_us]
    refine ⟨⟨by decide, 3, by omega, by decide, ?_⟩, rfl⟩
    exact hW 4 (by decide)
/-- what a change leaves of the object -/
def chR (b B : Int) (Y : Nat → va_H) (I : Nat → Int32) (mv : Prop) (E : (Nat → Int32) → (Nat → Int32) → Int32 → Prop) (r : Int32) (Y' : Nat → va_H) (I' d d' : Nat → Int32) : Prop :=
  (r < 0 ∧ FR Y Y' ∧ I' = I ∧ d' = d) ∨ (¬ r < 0 ∧ kept Y I Y' I' ∧ ∃ M, (∀ j, j < 236 → j ≠ 10 → (Y' 4).2.1 j = M j) ∧ wf b M (Y' 4).2.2 ∧ M 0 = (Y 4).2.1 0 ∧ xt B M d' ∧ (mv → sea M = sea (Y 4).2.1 ∧ M 10 = (Y 4).2.1 10) ∧ (¬ mv → M 9 = (Y 4).2.1 9) ∧ E M (Y' 4).2.2 r)
theorem chg_e (hc : f.1 < 0) : chg Y S q V z U y I f = (f.1, (w5 (w5 Y (Y 4).2.1 (Y 4).2.2) f.2.1 f.2.2, I)) := by
  unfold chg sp_X5_endTrial
  rw [if_pos hc]
theorem w55 {A C A' C' : Nat → Int32} : FR Y (w5 (w5 Y A C) A' C') := fun i hi => (w5_o hi).trans (w5_o hi)
/-- the delivered units: d' if the change was kept -/
theorem chg_x (h1 : 0 ≤ (I 0).toInt) (h2 : (I 0).toInt ≤ 4) (hR : opR b B (Y 4).2.1 mv E f d') : chR b B Y I mv E (chg Y S q V z U y I f).1 (chg Y S q V z U y I f).2.1 (chg Y S q V z U y I f).2.2 d (if (chg Y S q V z U y I f).1 < 0 then d else d') ∧ (chg Y S q V z U y I f).1 = f.1 := by
  rcases hR with c | ⟨c, M, m1, m2, m3, m4, m5, m6, m7⟩
  · rw [chg_e c]
    exact ⟨Or.inl ⟨c, w55, rfl, if_pos c⟩, rfl⟩
  · obtain ⟨k1, k2⟩ := keep_k (S := S) (q := q) (V := V) (z := z) (U := U) (y := y) h1 h2 (Y := Y) (W := w5 (w5 Y (Y 4).2.1 (Y 4).2.2) f.2.1 f.2.2) w55
    unfold chg sp_X5_endTrial
    rw [if_neg c]
    dsimp only
    refine ⟨Or.inr ⟨c, k1, M, ?_, ?_, m3, ?_, m5, m6, ?_⟩, rfl⟩
    · rw [k2]; exact fun j _ h10 => m1 j h10
    · rw [k2]; exact m2
    · rw [if_neg c]; exact m4
    · rw [k2]; exact m7
/-- an error: nothing but the trial is another one -/
theorem chg_f (hc : f.1 < 0) : ∃ Y', chg Y S q V z U y I f = (f.1, (Y', I)) ∧ FR Y Y' := ⟨_, chg_e hc, w55⟩
end CX
