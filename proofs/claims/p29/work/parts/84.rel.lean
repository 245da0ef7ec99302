/-! PURE: class and model side by side, and what a call leaves of that -/
theorem wf_cg {b : Int} {N M G : Nat → Int32} (q : ∀ j, j < 236 → M j = N j) (h : wf b N G) : wf b M G := by
  have e0 := q 0 (by omega)
  have hs := h.sf
  have n20' : ∀ g : Nat, (g : Int) < (M 0).toInt → g < 20 := fun g hg => by rw [e0] at hg; exact h.n20 hg
  have sl := sea_lt (N := N)
  refine ⟨?_, fun g hg => ?_, fun g hg hn => ?_, ?_, ⟨fun g t hg ht hgs => ?_, fun t ht => ?_⟩, ?_⟩
  · unfold sfN at hs ⊢; rw [e0, q 1 (by omega)]; exact hs
  · have g20 := n20' g hg
    rw [e0] at hg
    have p := h.g hg
    refine wfg.mk ?_ ?_ ?_ ?_ ?_ ?_ ?_
    · rw [q _ (by omega)]; exact p.w
    · rw [q _ (by omega)]; exact p.c
    · intro t ht; rw [q _ (by omega)]; exact p.d ht
    · rw [q _ (by omega)]; exact p.p
    · rw [q _ (by omega), q (17 + 11 * g) (by omega)]; exact p.u
    · rw [q _ (by omega), q (23 + 11 * g) (by omega)]; exact p.st
    · rw [q _ (by omega)]; exact p.k
  · rw [e0] at hn
    obtain ⟨z1, z2, z3, z4, z5⟩ := h.z hg hn
    refine ⟨fun t ht => ?_, ?_, ?_, ?_, ?_⟩
    · rw [q _ (by omega)]; exact z1 t ht
    · rw [q _ (by omega)]; exact z2
    · rw [q _ (by omega)]; exact z3
    · rw [q _ (by omega)]; exact z4
    · rw [q _ (by omega)]; exact z5
  · have := h.t; unfold wft at this ⊢; rw [q 2 (by omega), q 3 (by omega), q 4 (by omega)]; exact this
  · have g20 := n20' g hg
    rw [e0] at hg; rw [q _ (by omega)] at hgs; exact h.sl.1 g t hg ht hgs
  · rcases h.sl.2 t ht with p | ⟨g, hg, p1, p2⟩
    · exact Or.inl p
    · have g20 := h.n20 hg
      exact Or.inr ⟨g, by rw [e0]; exact hg, p1, by rw [q _ (by omega)]; exact p2⟩
  · have es : sea M = sea N := by unfold sea; rw [q 1 (by omega)]
    have ek : wkS M (sea N) = wkS N (sea N) := by
      unfold wkS
      rw [e0]
      exact sumI_same _ 0 (fun j _ hj => wkT_eq (q _ (by have := hs.2.1; omega)) (q _ (by have := hs.2.1; omega)))
    unfold wfb
    rw [es, ek, q 10 (by omega), q 9 (by omega)]
    exact h.bs
/-- row i of the model's states -/
def pr (Z : Nat → Nat → Int32) (i : Nat) : Nat → Int32 := fun j => Z 1 (236 * i + j)
/-- class and model side by side -/
def rel (b : Int) (W : Nat → va_H) (S q I N : Nat → Int32) (Z : Nat → Nat → Int32) : Prop :=
  (∀ j, j < 236 → j ≠ 10 → (W 4).2.1 j = N j) ∧ wf b N (W 4).2.2 ∧ psZ Z ∧ I 0 = Z 0 0 ∧ (∀ i : Nat, (i : Int) < (Z 0 0).toInt → (∀ j, j < 236 → j ≠ 10 → (W i).2.1 j = pr Z i j) ∧ wf b (pr Z i) (W i).2.2) ∧ tyZ Z ∧ q 0 = Z 0 1 ∧ (∀ j : Nat, (j : Int) < (Z 0 1).toInt → S j = Z 3 j) ∧ ∀ j, narrow .char (.int (S j)) = .int (S j)
section PZ
variable {N N' S q q3 I I3 V U : Nat → Int32} {z y : Int32} {Z Z0 Z' : Nat → Nat → Int32} {W W3 : Nat → va_H} {b b' : Int}
theorem rel.mono (hb : b ≤ b') (R : rel b W S q I N Z) : rel b' W S q I N Z := ⟨R.1, R.2.1.mono hb, R.2.2.1, R.2.2.2.1, fun i hi => ⟨(R.2.2.2.2.1 i hi).1, (R.2.2.2.2.1 i hi).2.mono hb⟩, R.2.2.2.2.2⟩
theorem za.ps (h : za Z Z') (p : psZ Z) : psZ Z' := by unfold psZ at *; rw [h.1]; exact p
theorem za.tx (h : za Z Z') (ht : tyZ Z) (hS : ∀ j : Nat, (j : Int) < (Z 0 1).toInt → S j = Z 3 j) : tyZ Z' ∧ ∀ j : Nat, (j : Int) < (Z' 0 1).toInt → S j = Z' 3 j := by
  refine ⟨by unfold tyZ at *; rw [h.2.1]; exact ht, fun j hj => ?_⟩
  rw [h.2.1] at hj
  rw [h.2.2.2 j (by have := ht.2; omega)]
  exact hS j hj
/-- nothing was changed -/
theorem keep_no (R : rel b W S q I N Z) (hW : ∀ i, i ≠ 5 → W3 i = W i) (hI : I3 0 = I 0) (hq : q3 0 = q 0) (hz : za Z Z') (hN : ∀ j, j < 236 → N' j = N j) : rel b W3 S q3 I3 N' Z' := by
  obtain ⟨r1, r2, r3, r4, r5, r6, r7, r8, r9⟩ := R
  have ht := hz.tx r6 r8
  refine ⟨fun j h1 h2 => ?_, ?_, hz.ps r3, ?_, fun i hi => ?_, ht.1, ?_, ht.2, r9⟩
  · rw [hW 4 (by omega), hN j h1]; exact r1 j h1 h2
  · rw [hW 4 (by omega)]; exact wf_cg hN r2
  · rw [hI, hz.1]; exact r4
  · rw [hz.1] at hi
    have i4 : i < 4 := by have := r3.2; omega
    obtain ⟨a1, a2⟩ := r5 i hi
    have ep : ∀ j, j < 236 → pr Z' i j = pr Z i j := fun j hj => hz.2.2.1 _ (by omega)
    rw [hW i (by omega)]
    exact ⟨fun j h1 h2 => by rw [ep j h1]; exact a1 j h1 h2, wf_cg ep a2⟩
  · rw [hq, hz.2.1]; exact r7
/-- the model's records -/
theorem rec_l : ∀ (n i : Nat) (Y : Nat → Nat → Int32), i ≤ 708 → 708 - i < n → (∀ j, Y 1 j = if j < i then Z 1 (j + 236) else Z 1 j) →
    (lp10_X6_records N n (nI i) Y) 0 0 = nI 4 ∧ (∀ j, j < 708 → (lp10_X6_records N n (nI i) Y) 1 j = Z 1 (j + 236)) ∧ ∀ j, j < 236 → (lp10_X6_records N n (nI i) Y) 1 (708 + j) = N j := by
  intro n
  induction n with
  | zero => intro i Y _ h; exact absurd h (by omega)
  | succ n ih =>
    intro i Y hi hn hY
    rw [lp10_X6_records_s]
    by_cases c : (708 : Int32) ≤ nI i
    · have ei : i = 708 := by rw [le_toInt, tI (by omega), show (708 : Int32).toInt = 708 from by decide] at c; omega
      subst ei
      rw [if_pos c]
      have z3 : zu Y 0 0 3 0 0 = 3 := zqs
      rw [z3, show (3 : Int32) * (236 : Int32) = nI 708 from by decide]
      have c0 : sp_X6_copies12 N (zu Y 0 0 3) 0 (nI 708) 0 0 = 3 := by
        unfold sp_X6_copies12
        rw [cp12_q (by decide), zqs]
      have c1 : ∀ j, sp_X6_copies12 N (zu Y 0 0 3) 0 (nI 708) 1 j = if 708 ≤ j ∧ j < 944 then N (j - 708) else Y 1 j := by
        intro j
        have e := cp12_l (N := N) (m := 708) (by omega) 237 0 (zu Y 0 0 3) (by omega) (by omega) j
        rw [zu_n (by decide)] at e
        exact e
      refine ⟨by rw [zqs, c0]; decide, fun j hj => ?_, fun j hj => ?_⟩
      · rw [zu_n (by decide), c1, if_neg (by omega), hY j, if_pos hj]
      · rw [zu_n (by decide), c1, if_pos (by omega)]; exact congrArg N (by omega)
    · rw [if_neg c]
      have ei : i < 708 := by rw [le_toInt, tI (by omega), show (708 : Int32).toInt = 708 from by decide] at c; omega
      have e1 : nI i + (236 : Int32) = nI (i + 236) := nI_add i 236
      rw [e1, xI (show i < 1000 by omega), xI (show i + 236 < 1000 by omega), nI_1]
      refine ih (i + 1) _ (by omega) (by omega) (fun j => ?_)
      rw [zu_s]
      by_cases c1 : j = i
      · rw [c1, pk_us, hY, if_neg (by omega), if_pos (by omega)]
      · rw [pk_un c1, hY]
        by_cases c2 : j < i
        · rw [if_pos c2, if_pos (by omega)]
        · rw [if_neg c2, if_neg (by omega)]
theorem rec_s (hp : psZ Z) : (¬ Z 0 0 = 4 → ∃ p : Nat, p < 4 ∧ Z 0 0 = nI p ∧ (sp_X6_records N Z) 0 0 = nI (p + 1) ∧ (∀ i, i < p → ∀ j, j < 236 → pr (sp_X6_records N Z) i j = pr Z i j) ∧ ∀ j, j < 236 → pr (sp_X6_records N Z) p j = N j) ∧
    (Z 0 0 = 4 → (sp_X6_records N Z) 0 0 = nI 4 ∧ (∀ i, i < 3 → ∀ j, j < 236 → pr (sp_X6_records N Z) i j = pr Z (i + 1) j) ∧ ∀ j, j < 236 → pr (sp_X6_records N Z) 3 j = N j) := by
  constructor
  · intro c
    obtain ⟨p, hp4, e⟩ := nat_of (n := 4) hp.1 hp.2
    have p3 : p < 4 := by
      rcases Nat.lt_or_ge p 4 with w | w
      · exact w
      · exact absurd (by rw [e, show p = 4 by omega]; decide) c
    unfold sp_X6_records
    rw [if_neg c]
    dsimp only
    rw [e, show (236 : Int32) = nI 236 from rfl, pk_mul]
    have c0 : sp_X6_copies12 N Z 0 (nI (p * 236)) 0 0 = nI p := by
      unfold sp_X6_copies12
      rw [cp12_q (by decide), e]
    have c1 : ∀ j, sp_X6_copies12 N Z 0 (nI (p * 236)) 1 j = if p * 236 ≤ j ∧ j < p * 236 + 236 then N (j - p * 236) else Z 1 j := fun j => cp12_l (N := N) (m := p * 236) (by omega) 237 0 Z (by omega) (by omega) j
    refine ⟨p, p3, rfl, by rw [zqs, c0, nI_1], fun i hi j hj => ?_, fun j hj => ?_⟩
    · unfold pr
      rw [zu_n (by decide), c1, if_neg (by omega)]
    · unfold pr
      rw [zu_n (by decide), c1, if_pos (by omega)]
      exact congrArg N (by omega)
  · intro c
    unfold sp_X6_records
    rw [if_pos c]
    obtain ⟨a1, a2, a3⟩ := rec_l (N := N) (Z := Z) 709 0 Z (by omega) (by omega) (fun j => (if_neg (by omega)).symm)
    refine ⟨a1, fun i hi j hj => ?_, fun j hj => ?_⟩
    · unfold pr
      have e := a2 (236 * i + j) (by omega)
      rw [show 236 * (i + 1) + j = 236 * i + j + 236 by omega]
      exact e
    · have e := a3 j hj
      unfold pr
      rw [show 236 * 3 + j = 708 + j by omega]
      exact e
/-- a change was kept -/
theorem keep_yes (hb : b ≤ b') (R : rel b W S q I N Z) (hW : ∀ i, i ≠ 5 → W3 i = W i) (hI : I3 0 = I 0) (hq : q3 0 = q 0) (hz0 : za Z Z0) (hz : za (sp_X6_records N Z0) Z') (h5 : ∀ j, j < 236 → j ≠ 10 → (W3 5).2.1 j = N' j) (hwf : wf b' N' (W3 5).2.2) : rel b' (sp_X5_keepTrial W3 S q3 V z U y I3).1 S q3 (sp_X5_keepTrial W3 S q3 V z U y I3).2 N' Z' := by
  obtain ⟨r1, r2, r3, r4, r5, r6, r7, r8, r9⟩ := R
  have p0 := hz0.ps r3
  have t0 := hz0.tx r6 r8
  have qr : ∀ c k, c ≠ 1 → (c ≠ 0 ∨ k ≠ 0) → sp_X6_records N Z0 c k = Z0 c k := fun c k h1 h2 => rcq h1 h2
  have tr : za Z0 Z' ∨ True := Or.inr trivial
  have e1 : Z' 0 1 = Z 0 1 := by rw [hz.2.1, qr 0 1 (by decide) (Or.inr (by decide)), hz0.2.1]
  have e3 : ∀ j, j < 60 → Z' 3 j = Z 3 j := fun j hj => by rw [hz.2.2.2 j hj, qr 3 j (by decide) (Or.inl (by decide)), hz0.2.2.2 j hj]
  have ty' : tyZ Z' := by unfold tyZ at *; rw [e1]; exact r6
  have tx' : ∀ j : Nat, (j : Int) < (Z' 0 1).toInt → S j = Z' 3 j := by
    intro j hj
    rw [e1] at hj
    rw [e3 j (by have := r6.2; omega)]
    exact r8 j hj
  have q' : q3 0 = Z' 0 1 := by rw [hq, e1]; exact r7
  have ep : ∀ i, i < 4 → ∀ j, j < 236 → pr Z' i j = pr (sp_X6_records N Z0) i j := fun i hi j hj => hz.2.2.1 _ (by omega)
  have ez : ∀ i, i < 4 → ∀ j, j < 236 → pr Z0 i j = pr Z i j := fun i hi j hj => hz0.2.2.1 _ (by omega)
  obtain ⟨s1, s2⟩ := rec_s (N := N) p0
  have hI0 : I3 0 = Z0 0 0 := by rw [hI, r4, hz0.1]
  have hw4 : W3 4 = W 4 := hW 4 (by omega)
  unfold sp_X5_keepTrial
  by_cases c : Z0 0 0 = 4
  · obtain ⟨a1, a2, a3⟩ := s2 c
    have hc : ¬ I3 0 < 4 := by rw [hI0, c]; decide
    rw [if_neg hc]
    dsimp only
    have z00 : Z' 0 0 = nI 4 := by rw [hz.1, a1]
    refine ⟨h5, hwf, by unfold psZ; rw [z00]; decide, by rw [z00, pk_us]; decide, fun i hi => ?_, ty', q', tx', r9⟩
    rw [z00, tI (by omega)] at hi
    have i4 : i < 4 := by omega
    by_cases i3 : i = 3
    · subst i3
      have ew : cy 3 (dr W3) 3 = W 4 := hw4
      rw [ew]
      have en : ∀ j, j < 236 → pr Z' 3 j = N j := fun j hj => (ep 3 (by omega) j hj).trans (a3 j hj)
      exact ⟨fun j h1 h2 => by rw [en j h1]; exact r1 j h1 h2, (wf_cg en r2).mono hb⟩
    · have i3' : i < 3 := by omega
      have ew : cy 3 (dr W3) i = W (i + 1) := by
        unfold cy dr
        rw [if_neg i3, if_neg (by omega), if_neg (by omega), if_pos i3']
        exact hW (i + 1) (by omega)
      rw [ew]
      have en : ∀ j, j < 236 → pr Z' i j = pr Z (i + 1) j := fun j hj => ((ep i i4 j hj).trans (a2 i i3' j hj)).trans (ez (i + 1) (by omega) j hj)
      obtain ⟨b1, b2⟩ := r5 (i + 1) (by rw [← hz0.1, c, show (4 : Int32).toInt = 4 from by decide]; omega)
      exact ⟨fun j h1 h2 => by rw [en j h1]; exact b1 j h1 h2, (wf_cg en b2).mono hb⟩
  · obtain ⟨p, p4, pe, a1, a2, a3⟩ := s1 c
    have hc : I3 0 < 4 := by rw [hI0, pe, lt_toInt, tI (by omega), show (4 : Int32).toInt = 4 from by decide]; omega
    rw [if_pos hc]
    dsimp only
    have ek : ix (I3 0) = p := by rw [hI0, pe]; exact xI (by omega)
    have z00 : Z' 0 0 = nI (p + 1) := by rw [hz.1, a1]
    rw [ek]
    have ew4 : cy p W3 4 = W3 5 := by
      unfold cy
      rw [if_neg (by omega), if_pos rfl]
    refine ⟨fun j h1 h2 => by rw [ew4]; exact h5 j h1 h2, by rw [ew4]; exact hwf, by unfold psZ; rw [z00, tI (by omega)]; omega, by rw [z00, pk_us, hI0, pe, nI_1], fun i hi => ?_, ty', q', tx', r9⟩
    rw [z00, tI (by omega)] at hi
    by_cases ip : i = p
    · subst ip
      have ew : cy i W3 i = W 4 := by
        unfold cy
        rw [if_pos rfl]
        exact hw4
      rw [ew]
      have en : ∀ j, j < 236 → pr Z' i j = N j := fun j hj => (ep i p4 j hj).trans (a3 j hj)
      exact ⟨fun j h1 h2 => by rw [en j h1]; exact r1 j h1 h2, (wf_cg en r2).mono hb⟩
    · have i4 : i < p := by omega
      have ew : cy p W3 i = W i := by
        unfold cy
        rw [if_neg ip, if_neg (by omega), if_neg (by omega)]
        exact hW i (by omega)
      rw [ew]
      have en : ∀ j, j < 236 → pr Z' i j = pr Z i j := fun j hj => ((ep i (by omega) j hj).trans (a2 i i4 j hj)).trans (ez i (by omega) j hj)
      obtain ⟨b1, b2⟩ := r5 i (by rw [← hz0.1, pe, tI (by omega)]; omega)
      exact ⟨fun j h1 h2 => by rw [en j h1]; exact b1 j h1 h2, (wf_cg en b2).mono hb⟩
/-- a change that was tried on a copy of now, and its end -/
def chg (W : Nat → va_H) (S q V : Nat → Int32) (z : Int32) (U : Nat → Int32) (y : Int32) (I : Nat → Int32) (r : Int32 × ((Nat → Int32) × (Nat → Int32))) : Int32 × ((Nat → va_H) × (Nat → Int32)) := sp_X5_endTrial (w5 (w5 W (W 4).2.1 (W 4).2.2) r.2.1 r.2.2) S q V z U y I r.1
theorem w5_o {A B : Nat → Int32} {i : Nat} (hi : i ≠ 5) : w5 W A B i = W i := if_neg hi
theorem chg_s {f4 : Int32 × ((Nat → Int32) × (Nat → Int32))} {f6 : Int32 × ((Nat → Int32) × (Nat → Nat → Int32))} (hb : b ≤ b') (R : rel b W S q I N Z) (h : stp b' N Z f4 f6) : (chg W S q V z U y I f4).1 = f6.1 ∧ rel b' (chg W S q V z U y I f4).2.1 S q (chg W S q V z U y I f4).2.2 f6.2.1 f6.2.2 := by
  obtain ⟨h1, h2⟩ := h
  unfold chg sp_X5_endTrial
  dsimp only
  rcases h2 with ⟨c, e, hz⟩ | ⟨c, hj, hw, Z0, hz0, hz⟩
  · rw [if_pos c]
    exact ⟨h1, rel.mono hb (keep_no R (fun i hi => (w5_o hi).trans (w5_o hi)) rfl rfl hz (fun j _ => by rw [e]))⟩
  · rw [if_neg c]
    exact ⟨h1, keep_yes (V := V) (z := z) (U := U) (y := y) hb R (fun i hi => (w5_o hi).trans (w5_o hi)) rfl rfl hz0 hz (fun j _ h2 => hj j h2) hw⟩
/-- undoing -/
theorem r_undo (R : rel b W S q I N Z) : (sp_X5_undo W S q V z U y I).1 = (sp_X6_undo N Z).1 ∧ rel b (sp_X5_undo W S q V z U y I).2.1 S q (sp_X5_undo W S q V z U y I).2.2 (sp_X6_undo N Z).2.1 (sp_X6_undo N Z).2.2 := by
  have R' := R
  obtain ⟨r1, r2, r3, r4, r5, r6, r7, r8, r9⟩ := R
  obtain ⟨p, hp4, e⟩ := nat_of (n := 4) r3.1 r3.2
  unfold sp_X5_undo sp_X6_undo
  by_cases c : Z 0 0 = 0
  · have hc : ¬ (1 : Int32) ≤ I 0 := by rw [r4, c]; decide
    rw [if_neg hc, if_pos c]
    exact ⟨rfl, R'⟩
  · have p1 : 1 ≤ p := by
      rcases Nat.eq_zero_or_pos p with w | w
      · exact absurd (by rw [e, w]; decide) c
      · exact w
    have hc : (1 : Int32) ≤ I 0 := by rw [r4, e, le_toInt, tI (by omega), show (1 : Int32).toInt = 1 from by decide]; omega
    rw [if_pos hc, if_neg c]
    dsimp only
    obtain ⟨s, rfl⟩ : ∃ s, p = s + 1 := ⟨p - 1, by omega⟩
    have es : I 0 - 1 = nI s := by rw [r4, e, nI_pred]
    have ez : Z 0 0 - 1 = nI s := by rw [e, nI_pred]
    rw [es, ez, zqs, xI (show s < 1000 by omega), show (236 : Int32) = nI 236 from rfl, pk_mul]
    have c1 : ∀ j, j < 236 → sp_X6_copies21 N (zu Z 0 0 (nI s)) (nI (s * 236)) 0 j = pr Z s j := by
      intro j hj
      have w := cp21_l (Z := zu Z 0 0 (nI s)) (m := s * 236) (by omega) 237 0 N (by omega) (by omega) j
      rw [if_pos (by omega), zu_n (by decide)] at w
      unfold pr
      rw [show 236 * s + j = s * 236 + j by omega]
      exact w
    obtain ⟨b1, b2⟩ := r5 s (by rw [e, tI (by omega)]; omega)
    have ew4 : sp4 s W 4 = W s := by
      unfold sp4
      rw [if_neg (by omega), if_pos rfl]
    refine ⟨rfl, ?_⟩
    refine ⟨fun j h1 h2 => by rw [ew4, c1 j h1]; exact b1 j h1 h2, by rw [ew4]; exact wf_cg c1 b2, by unfold psZ; rw [zqs, tI (by omega)]; omega, by rw [pk_us, zqs], fun i hi => ?_, by unfold tyZ at *; rw [zq (Or.inr (by decide))]; exact r6, by rw [zq (Or.inr (by decide))]; exact r7, fun j hj => ?_, r9⟩
    · rw [zqs, tI (by omega)] at hi
      have ew : sp4 s W i = W i := by
        unfold sp4
        rw [if_neg (by omega), if_neg (by omega)]
      obtain ⟨d1, d2⟩ := r5 i (by rw [e, tI (by omega)]; omega)
      have en : pr (zu Z 0 0 (nI s)) i = pr Z i := by
        unfold pr
        rw [zu_n (by decide)]
      rw [ew, en]
      exact ⟨d1, d2⟩
    · rw [zq (Or.inr (by decide))] at hj
      rw [zu_n (by decide)]
      exact r8 j hj
theorem ch_n : ∀ k, k < 127 → vp_nar .char (((nI k).toUInt32 % 65536).toInt32) = nI k := by decide +kernel
theorem ch_w : ∀ k, k < 127 → narrow .char (.int (nI k)) = .int (nI k) := by decide +kernel
theorem r_type (R : rel b W S q I N Z) {x : Int32} : (sp_X1_append S q x).1 = (sp_X6_type N Z x).1 ∧ rel b W (sp_X1_append S q x).2.1 (sp_X1_append S q x).2.2 I N (sp_X6_type N Z x).2 := by
  have R' := R
  obtain ⟨r1, r2, r3, r4, r5, r6, r7, r8, r9⟩ := R
  unfold sp_X1_append sp_X6_type
  dsimp only
  by_cases hx : sp_X6_in x 32 126 = 0
  · rw [if_pos hx, is_in, if_pos hx]
    exact ⟨rfl, R'⟩
  · rw [if_neg hx, is_in, if_neg hx]
    have qx := min_of hx
    rw [show (32 : Int32).toInt = 32 from by decide, show (126 : Int32).toInt = 126 from by decide] at qx
    obtain ⟨k, hk, ek⟩ := nat_of (n := 126) (x := x) (by omega) (by omega)
    obtain ⟨a, ha, ea⟩ := nat_of (n := 60) r6.1 r6.2
    by_cases c : Z 0 1 = 60
    · have hc : ¬ q 0 < 60 := by rw [r7, c]; decide
      rw [if_neg hc, if_pos c]
      exact ⟨rfl, R'⟩
    · have a60 : a < 60 := by
        rcases Nat.lt_or_ge a 60 with w | w
        · exact w
        · exact absurd (by rw [ea, show a = 60 by omega]; decide) c
      have hc : q 0 < 60 := by rw [r7, ea, lt_toInt, tI (by omega), i60]; omega
      rw [if_pos hc, if_neg c, pk_us, zqs, r7, ea, ek, ch_n k (by omega), xI (show a < 1000 by omega)]
      have e1 : zu Z 3 a (nI k) 0 1 = nI a := (zq (Or.inl (by decide))).trans ea
      rw [e1, nI_1]
      refine ⟨rfl, ?_⟩
      dsimp only
      refine ⟨r1, r2, ?_, ?_, fun i hi => ?_, ?_, ?_, fun j hj => ?_, fun j => ?_⟩
      · unfold psZ at *; rw [zq (Or.inr (by decide)), zq (Or.inl (by decide))]; exact r3
      · rw [zq (Or.inr (by decide)), zq (Or.inl (by decide))]; exact r4
      · rw [zq (Or.inr (by decide)), zq (Or.inl (by decide))] at hi
        have en : pr (zu (zu Z 3 a (nI k)) 0 1 (nI (a + 1))) i = pr Z i := by
          unfold pr
          rw [zu_n (by decide), zu_n (by decide)]
        rw [en]
        exact r5 i hi
      · unfold tyZ; rw [zqs, tI (by omega)]; omega
      · rw [zqs]; exact pk_us
      · rw [zqs, tI (by omega)] at hj
        rw [zu_n (by decide), zu_s]
        by_cases w : j = a
        · rw [w, pk_us, pk_us]
        · rw [pk_un w, pk_un w]
          exact r8 j (by rw [ea, tI (by omega)]; omega)
      · by_cases w : j = a
        · rw [w, pk_us]; exact ch_w k (by omega)
        · rw [pk_un w]; exact r9 j
theorem r_clear (R : rel b W S q I N Z) : q 0 = (sp_X6_clearText N Z).1 ∧ rel b W S (upd q 0 0) I N (sp_X6_clearText N Z).2 := by
  obtain ⟨r1, r2, r3, r4, r5, r6, r7, r8, r9⟩ := R
  unfold sp_X6_clearText
  dsimp only
  refine ⟨r7, r1, r2, ?_, ?_, fun i hi => ?_, ?_, ?_, fun j hj => ?_, r9⟩
  · unfold psZ at *; rw [zq (Or.inr (by decide))]; exact r3
  · rw [zq (Or.inr (by decide))]; exact r4
  · rw [zq (Or.inr (by decide))] at hi
    have en : pr (zu Z 0 1 0) i = pr Z i := by
      unfold pr
      rw [zu_n (by decide)]
    rw [en]
    exact r5 i hi
  · unfold tyZ; rw [zqs]; decide
  · rw [zqs]; exact pk_us
  · rw [zqs, i0] at hj; omega
/-- what looking at a text leaves -/
theorem lk_s (hb : b ≤ 90000) (R : rel b W S q I N Z) (hE : (W 4).2.1 = N) : ttr (b + 61) N (w5 W (W 4).2.1 (W 4).2.2) (q 0) I (sp_X5_tryText W S q V z U y I) (sp_X6_doesAll N (sp_X6_copies13 N Z (0 : Int32) (0 : Int32))) ∧ sp_X6_looks N Z = ((sp_X6_doesAll N (sp_X6_copies13 N Z (0 : Int32) (0 : Int32))).1, (N, (sp_X6_doesAll N (sp_X6_copies13 N Z (0 : Int32) (0 : Int32))).2.2)) ∧ za Z (sp_X6_doesAll N (sp_X6_copies13 N Z (0 : Int32) (0 : Int32))).2.2 := by
  obtain ⟨r1, r2, r3, r4, r5, r6, r7, r8, r9⟩ := R
  have c0 : ∀ k, sp_X6_copies13 N Z (0 : Int32) (0 : Int32) 0 k = Z 0 k := fun k => congrFun (cp13_c (by decide)) k
  have c1 : ∀ k, sp_X6_copies13 N Z (0 : Int32) (0 : Int32) 1 k = Z 1 k := fun k => congrFun (cp13_c (by decide)) k
  have c3 : ∀ k, sp_X6_copies13 N Z (0 : Int32) (0 : Int32) 3 k = Z 3 k := fun k => congrFun (cp13_c (by decide)) k
  have hty := ty_cp13 (N := N) (x := (0 : Int32)) (y := (0 : Int32)) r6
  have t := tt_s (S := S) (V := V) (U := U) (z := z) (y := y) (I := I) (q := q) hb r2 (Z := sp_X6_copies13 N Z (0 : Int32) (0 : Int32)) (fun j _ => by rw [hE]) (by rw [c0]; exact r7) hty (fun j hj => by rw [c0] at hj; rw [c3]; exact r8 j hj)
  have k := (da_k r2.sf hty).2.2
  have zz : za Z (sp_X6_doesAll N (sp_X6_copies13 N Z (0 : Int32) (0 : Int32))).2.2 := by
    have w := za_RA k
    exact ⟨w.1.trans (c0 0), w.2.1.trans (c0 1), fun j hj => (w.2.2.1 j hj).trans (c1 j), fun j hj => (w.2.2.2 j hj).trans (c3 j)⟩
  refine ⟨t, ?_, zz⟩
  rw [lk_unf]
  have e : sp_X6_copies31 (sp_X6_doesAll N (sp_X6_copies13 N Z (0 : Int32) (0 : Int32))).2.1 (sp_X6_doesAll N (sp_X6_copies13 N Z (0 : Int32) (0 : Int32))).2.2 (0 : Int32) (0 : Int32) = N := by
    funext j
    by_cases hj : j < 236
    · exact cp_back k hj
    · rw [cp31, if_neg hj]
      obtain ⟨_, _, _, _, _, _, _, t8⟩ := t
      exact t8 j (by omega)
  rw [e]
theorem r_fault (hb : b ≤ 90000) (R : rel b W S q I N Z) (hE : (W 4).2.1 = N) {x : Int32} : (sp_X5_fault W S q V z U y I x).1 = (sp_X6_fault N Z x).1 ∧ rel b (sp_X5_fault W S q V z U y I x).2.1 S (sp_X5_fault W S q V z U y I x).2.2.1 (sp_X5_fault W S q V z U y I x).2.2.2 (sp_X6_fault N Z x).2.1 (sp_X6_fault N Z x).2.2 := by
  obtain ⟨t, e, zz⟩ := lk_s (V := V) (U := U) (z := z) (y := y) hb R hE
  unfold sp_X5_fault sp_X6_fault
  dsimp only
  rw [e]
  generalize sp_X6_doesAll N (sp_X6_copies13 N Z (0 : Int32) (0 : Int32)) = r6 at *
  generalize sp_X5_tryText W S q V z U y I = r5 at *
  obtain ⟨t1, t2, t3, t4, t5, t6, t7, t8⟩ := t
  have K : rel b r5.2.1 S r5.2.2.1 r5.2.2.2 N r6.2.2 := keep_no R (fun i hi => (t5 i hi).trans (w5_o hi)) t2 t7 zz (fun _ _ => rfl)
  by_cases hx : x = 0
  · have i1 : ¬ sp_X6_in x 0 1 = 0 := by rw [hx]; decide
    rw [if_pos hx, if_neg i1, t1]
    by_cases c : r6.1 = 0
    · rw [if_pos c, if_pos c]; exact ⟨rfl, K⟩
    · rw [if_neg c, if_neg c, if_pos hx, if_pos hx]; exact ⟨t3 c, K⟩
  · rw [if_neg hx]
    by_cases h1 : x = 1
    · have i1 : ¬ sp_X6_in x 0 1 = 0 := by rw [h1]; decide
      rw [if_pos h1, if_neg i1, t1]
      by_cases c : r6.1 = 0
      · rw [if_pos c, if_pos c]; exact ⟨rfl, K⟩
      · rw [if_neg c, if_neg c, if_neg hx, if_neg hx]; exact ⟨rfl, K⟩
    · have i0' : sp_X6_in x 0 1 = 0 := by
        refine Decidable.byContradiction fun w => ?_
        have w2 := min_of w
        rw [i0, show (1 : Int32).toInt = 1 from by decide] at w2
        obtain ⟨k, hk, ek⟩ := nat_of (n := 1) (x := x) (by omega) (by omega)
        rcases (show k = 0 ∨ k = 1 by omega) with w3 | w3
        · exact hx (by rw [ek, w3]; decide)
        · exact h1 (by rw [ek, w3]; decide)
      rw [if_neg h1, if_pos i0']
      exact ⟨rfl, R⟩
theorem r_play (hb : b ≤ 90000) (R : rel b W S q I N Z) (hE : (W 4).2.1 = N) : (sp_X5_play W S q V z U y I).1 = (sp_X6_play N Z).1 ∧ rel (b + 61) (sp_X5_play W S q V z U y I).2.1 S (sp_X5_play W S q V z U y I).2.2.1 (sp_X5_play W S q V z U y I).2.2.2 (sp_X6_play N Z).2.1 (sp_X6_play N Z).2.2 := by
  obtain ⟨t, e, zz⟩ := lk_s (V := V) (U := U) (z := z) (y := y) hb R hE
  have R' := R
  obtain ⟨r1, r2, r3, r4, r5', r6', r7, r8, r9⟩ := R
  unfold sp_X5_play sp_X6_play
  dsimp only
  rw [e]
  dsimp only
  generalize sp_X6_doesAll N (sp_X6_copies13 N Z (0 : Int32) (0 : Int32)) = r6 at *
  -- the second time
  have tz := zz.tx r6' r8
  have q1 : ∀ c k, c ≠ 1 → (c ≠ 0 ∨ k ≠ 0) → sp_X6_records N r6.2.2 c k = r6.2.2 c k := fun c k h1 h2 => rcq h1 h2
  have u := tt_s (S := S) (V := V) (U := U) (z := z) (y := y) (I := I) (q := q) hb r2 (Z := sp_X6_records N r6.2.2) (fun j _ => by rw [hE]) (by rw [q1 0 1 (by decide) (Or.inr (by decide)), zz.2.1]; exact r7) (ty_rec tz.1) (fun j hj => by rw [q1 0 1 (by decide) (Or.inr (by decide))] at hj; rw [q1 3 j (by decide) (Or.inl (by decide))]; exact tz.2 j hj)
  have k := (da_k r2.sf (ty_rec (N := N) tz.1)).2.2
  generalize sp_X6_doesAll N (sp_X6_records N r6.2.2) = s6 at *
  generalize sp_X5_tryText W S q V z U y I = r5 at *
  obtain ⟨t1, t2, t3, t4, t5, t6, t7, t8⟩ := t
  obtain ⟨u1, u2, u3, u4, u5, u6, u7, u8⟩ := u
  have hW : ∀ i, i ≠ 5 → r5.2.1 i = W i := fun i hi => (t5 i hi).trans (w5_o hi)
  rw [t1]
  by_cases c : r6.1 = 0
  · have c2 : s6.1 = 0 := by rw [← u1, t1]; exact c
    obtain ⟨v1, v2, v3, v4⟩ := u4 c2
    rw [if_pos c, if_pos c, if_pos c2]
    unfold sp_X5_endTrial
    dsimp only
    rw [if_neg v2]
    exact ⟨v1, keep_yes (V := V) (z := z) (U := U) (y := y) (by omega) R' hW t2 t7 zz (za_RA k) (fun j _ h2 => v3 j h2) v4⟩
  · rw [if_neg c, if_neg c]
    unfold sp_X5_endTrial
    dsimp only
    rw [if_pos (by decide : (-2 : Int32) < 0)]
    exact ⟨rfl, rel.mono (by omega) (keep_no R' hW t2 t7 zz (fun _ _ => rfl))⟩
end PZ
