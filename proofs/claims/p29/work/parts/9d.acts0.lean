/-! PURE: what acts stands on -/
def INVa (b B : Int) (Y : Nat → va_H) (I d : Nat → Int32) : Prop := wf b (Y 4).2.1 (Y 4).2.2 ∧ xt B (Y 4).2.1 d ∧ 0 ≤ (I 0).toInt ∧ (I 0).toInt ≤ 4
section TS
variable {Y Y1 Y2 : Nat → va_H} {S q V : Nat → Int32} {z : Int32} {U : Nat → Int32} {y : Int32} {I I1 d d1 : Nat → Int32} {b b' B B' : Int} {x r k : Int32}
theorem INVa.mono (h : INVa b B Y I d) (hb : b ≤ b') (hB : B ≤ B') : INVa b' B' Y I d := ⟨h.1.mono hb, h.2.1.mono hB, h.2.2⟩
theorem INVa.of (e : Y1 4 = Y 4) (hw : wf b (Y 4).2.1 (Y 4).2.2) (hx : xt B (Y 4).2.1 d) (h1 : 0 ≤ (I 0).toInt) (h2 : (I 0).toInt ≤ 4) : INVa b B Y1 I d := ⟨by rw [e]; exact hw, by rw [e]; exact hx, h1, h2⟩
theorem n0_of (e : Y1 4 = Y 4) : (Y1 4).2.1 0 = (Y 4).2.1 0 := by rw [e]
theorem upd_back {g : Nat} (h : ∀ j, j ≠ g → d1 j = d j) : upd d1 g (d g) = d := by
  funext j
  by_cases e : j = g
  · rw [e, pk_us]
  · rw [pk_un e]; exact h j e
theorem wk_ring {t S S' n n' : Int32} (h : t = S + n) (h' : t = S' + n') : S - S' = (100000000 : Int32) + n' - ((100000000 : Int32) + n) := by grind
theorem act_neg (hu : actP b B Y I d x r Y1 I1 d1) (c : ¬ (0 : Int32) ≤ r) : FR Y Y1 ∧ I1 = I ∧ d1 = d := by
  rcases hu.1 with ⟨_, h1, h2, h3⟩ | ⟨h, _⟩
  · exact ⟨h1, h2, h3⟩
  · exact absurd (by rw [le_toInt, i0] at c; rw [lt_toInt, i0]; omega) h
theorem nx4_b {x : Int32} (h1 : 0 ≤ x.toInt) (h2 : x.toInt ≤ 4) : 0 ≤ (nx4 x).toInt ∧ (nx4 x).toInt ≤ 4 := by
  unfold nx4
  by_cases c : x < 4
  · rw [if_pos c]
    have e := inc1 (b := 4) (x := x) (by decide) h1 h2
    rw [lt_toInt, i4] at c
    obtain ⟨p, hp, e0⟩ := nat_of (n := 4) h1 h2
    rw [e0, tI (by omega)] at c
    rw [e0, nI_1, tI (by omega)]
    omega
  · rw [if_neg c]; decide
/-- behind an act that was kept, now's row made the right one -/
theorem act_pos (hw : wf b (Y 4).2.1 (Y 4).2.2) (h1 : 0 ≤ (I 0).toInt) (h2 : (I 0).toInt ≤ 4) (hu : actP b B Y I d x r Y1 I1 d1) (c : (0 : Int32) ≤ r) : ∃ M, (∀ j, j < 236 → j ≠ 10 → (Y1 4).2.1 j = M j) ∧ INVa (b + 1) (B + 5000) (wn4 Y1 M) I1 d1 ∧ ((wn4 Y1 M) 4).2.1 0 = (Y 4).2.1 0 ∧ kept Y I (wn4 Y1 M) I1 ∧ (mvK (upF x 12) → sea ((wn4 Y1 M) 4).2.1 = sea (Y 4).2.1 ∧ wkS (Y 4).2.1 (sea (Y 4).2.1) - wkS ((wn4 Y1 M) 4).2.1 (sea (Y 4).2.1) = (100000000 : Int32) + ((wn4 Y1 M) 4).2.1 9 - ((100000000 : Int32) + (Y 4).2.1 9)) ∧ (¬ mvK (upF x 12) → ((wn4 Y1 M) 4).2.1 9 = (Y 4).2.1 9) ∧ EK ((Y 4).2.1 9) x ((wn4 Y1 M) 4).2.1 ((wn4 Y1 M) 4).2.2 r := by
  rcases hu.1 with ⟨hc, _⟩ | ⟨hc, hk, M, m1, m2, m3, m4, m5, m6, m7⟩
  · exact absurd c (by rw [lt_toInt, i0] at hc; rw [le_toInt, i0]; omega)
  · refine ⟨M, m1, ?_⟩
    have e4 : wn4 Y1 M 4 = ((Y1 4).1, M, (Y1 4).2.2) := wn4_4
    rw [e4]
    obtain ⟨k1, p, hp, k2, k3⟩ := hk
    have nb := nx4_b h1 h2
    refine ⟨⟨by rw [e4]; exact m2, by rw [e4]; exact m4, by rw [k1]; exact nb.1, by rw [k1]; exact nb.2⟩, m3, ⟨k1, p, hp, k2, by rw [wn4_o (by omega)]; exact k3⟩, fun w => ?_, m6, m7⟩
    obtain ⟨s1, s2⟩ := m5 w
    refine ⟨s1, ?_⟩
    have q1 := hw.bs
    have q2 := m2.bs
    unfold wfb at q1 q2
    dsimp only at s1 ⊢
    rw [s1, s2] at q2
    exact wk_ring q1 q2
/-- whether an act is a move -/
def mvI (k : Int32) : Int32 := if (3 : Int32) < k then (if k < 7 then 1 else 0) else 0
theorem mvI_a (c : k ≤ (3 : Int32)) : (0 : Int32) = mvI k := by
  unfold mvI
  rw [if_neg (lt_le c)]
theorem mvI_b (c : ¬ k ≤ (3 : Int32)) (c2 : (7 : Int32) ≤ k) : (0 : Int32) = mvI k := by
  unfold mvI
  rw [if_pos (nle_lt c), if_neg (lt_le c2)]
theorem mvI_c (c : ¬ k ≤ (3 : Int32)) (c2 : ¬ (7 : Int32) ≤ k) : (1 : Int32) = mvI k := by
  unfold mvI
  rw [if_pos (nle_lt c), if_pos (nle_lt c2)]
theorem mvI_n (h : mvI k = 0) : ¬ mvK k := by
  intro w
  unfold mvI at h
  rw [if_pos w.1, if_pos w.2] at h
  exact absurd h (by decide)
theorem mvI_y (h : ¬ mvI k = 0) : mvK k := by
  unfold mvI at h
  by_cases c : (3 : Int32) < k
  · rw [if_pos c] at h
    by_cases c2 : k < 7
    · exact ⟨c, c2⟩
    · rw [if_neg c2] at h; exact absurd rfl h
  · rw [if_neg c] at h; exact absurd rfl h
theorem nx4_t {x : Int32} (c : (4 : Int32) ≤ x) : (4 : Int32) = nx4 x := by
  unfold nx4
  rw [if_neg (lt_le c)]
theorem nx4_f {x : Int32} (c : ¬ (4 : Int32) ≤ x) : x + 1 = nx4 x := by
  unfold nx4
  rw [if_pos (nle_lt c)]
/-- how many states an undo leaves -/
def un4 (x : Int32) : Int32 := if x < 4 then x else 3
theorem un4_t {x : Int32} (c : (4 : Int32) ≤ x) : (3 : Int32) = un4 x := by
  unfold un4
  rw [if_neg (lt_le c)]
theorem un4_f {x : Int32} (c : ¬ (4 : Int32) ≤ x) : x = un4 x := by
  unfold un4
  rw [if_pos (nle_lt c)]
theorem undo_k (h1 : 0 ≤ (I 0).toInt) (h2 : (I 0).toInt ≤ 4) (hk : kept Y I Y2 I1) : ∃ (r : Int32) (Y3 : Nat → va_H) (I3 : Nat → Int32), sp_X5_undo Y2 S q V z U y I1 = (r, (Y3, I3)) ∧ r = un4 (I 0) ∧ Y3 4 = Y 4 ∧ 0 ≤ (I3 0).toInt ∧ (I3 0).toInt ≤ 4 := by
  obtain ⟨k1, p, hp, k2, k3⟩ := hk
  obtain ⟨j, hj, ej⟩ := nat_of (n := 4) h1 h2
  have e1 : I1 0 - 1 = nI p := by rw [k2, nI_pred]
  refine ⟨I1 0 - 1, sp4 (ix (I1 0 - 1)) Y2, upd I1 0 (I1 0 - 1), ?_, ?_, ?_, ?_⟩
  · unfold sp_X5_undo
    rw [if_pos (by rw [k2, le_toInt, tI (by omega), show (1 : Int32).toInt = 1 from by decide]; omega)]
  · rw [e1]
    unfold nx4 at k1
    unfold un4
    by_cases c : I 0 < 4
    · rw [if_pos c] at k1 ⊢
      rw [k1] at e1
      rw [← e1]
      grind
    · rw [if_neg c] at k1 ⊢
      rw [← e1, k1]
      decide
  · rw [e1, xI (by omega)]
    unfold sp4
    rw [if_neg (by omega), if_pos rfl]
    exact k3
  · rw [pk_us, e1, tI (by omega)]; omega
end TS
