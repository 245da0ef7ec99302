/-! PURE: what holds of a row at any time -/
/-- of a good that there is (b: how often it can have been picked) -/
def wfg (b : Int) (N : Nat → Int32) (g : Nat) : Prop :=
  (1 ≤ (N (16 + 11 * g)).toInt ∧ (N (16 + 11 * g)).toInt ≤ 40) ∧ (1 ≤ (N (17 + 11 * g)).toInt ∧ (N (17 + 11 * g)).toInt ≤ 200) ∧ (∀ s, s < 4 → 0 ≤ (N (18 + 11 * g + s)).toInt ∧ (N (18 + 11 * g + s)).toInt ≤ 999) ∧ (N (22 + 11 * g) = -1 ∨ ∃ s : Nat, s < 60 ∧ N (22 + 11 * g) = nI s) ∧ (0 ≤ (N (23 + 11 * g)).toInt ∧ (N (23 + 11 * g)).toInt ≤ (N (17 + 11 * g)).toInt) ∧ (0 ≤ (N (24 + 11 * g)).toInt ∧ (N (24 + 11 * g)).toInt + (N (23 + 11 * g)).toInt ≤ 100200) ∧ (0 ≤ (N (25 + 11 * g)).toInt ∧ (N (25 + 11 * g)).toInt ≤ b)
/-- of a good that there isn't yet -/
def wfz (N : Nat → Int32) (g : Nat) : Prop := (∀ s, s < 4 → N (18 + 11 * g + s) = 0) ∧ N (23 + 11 * g) = 0 ∧ N (24 + 11 * g) = 0 ∧ N (25 + 11 * g) = 0 ∧ N (26 + 11 * g) = 0
/-- slots and goods name each other -/
def wfs (N G : Nat → Int32) : Prop := (∀ g s : Nat, (g : Int) < (N 0).toInt → s < 60 → N (22 + 11 * g) = nI s → G s = nI g) ∧ ∀ s : Nat, s < 60 → G s = -1 ∨ ∃ g : Nat, (g : Int) < (N 0).toInt ∧ G s = nI g ∧ N (22 + 11 * g) = nI s
def wft (N : Nat → Int32) : Prop := (0 ≤ (N 2).toInt ∧ (N 2).toInt ≤ 200) ∧ (1 ≤ (N 3).toInt ∧ (N 3).toInt ≤ 500) ∧ (0 ≤ (N 4).toInt ∧ (N 4).toInt ≤ 1)
def sumI (f : Nat → Int32) : Nat → Nat → Int32
  | 0, _ => 0
  | k + 1, i => f i + sumI f k (i + 1)
/-- a good's part of the weekly walk -/
def wkT (N : Nat → Int32) (s g : Nat) : Int32 := if N (22 + 11 * g) = -1 then 0 else N (18 + 11 * g + s) * sp_X6_walk (N (22 + 11 * g))
def wkS (N : Nat → Int32) (s : Nat) : Int32 := sumI (wkT N s) (N 0).toInt.toNat 0
def wfb (N : Nat → Int32) : Prop := N 10 = wkS N (sea N) + N 9
def wf (b : Int) (N G : Nat → Int32) : Prop := sfN N ∧ (∀ g : Nat, (g : Int) < (N 0).toInt → wfg b N g) ∧ (∀ g : Nat, g < 20 → (N 0).toInt ≤ g → wfz N g) ∧ wft N ∧ wfs N G ∧ wfb N
section PW
variable {N G : Nat → Int32} {Z : Nat → Nat → Int32} {b : Int} {i s : Nat}
theorem wf.sf (h : wf b N G) : sfN N := h.1
theorem wf.g (h : wf b N G) (hi : (i : Int) < (N 0).toInt) : wfg b N i := h.2.1 i hi
theorem wf.z (h : wf b N G) (h1 : i < 20) (hi : (N 0).toInt ≤ i) : wfz N i := h.2.2.1 i h1 hi
theorem wf.t (h : wf b N G) : wft N := h.2.2.2.1
theorem wf.sl (h : wf b N G) : wfs N G := h.2.2.2.2.1
theorem wf.bs (h : wf b N G) : wfb N := h.2.2.2.2.2
theorem wf.n20 (h : wf b N G) (hi : (i : Int) < (N 0).toInt) : i < 20 := by have := h.sf.2.1; omega
theorem wfg.w (h : wfg b N i) : 1 ≤ (N (16 + 11 * i)).toInt ∧ (N (16 + 11 * i)).toInt ≤ 40 := h.1
theorem wfg.c (h : wfg b N i) : 1 ≤ (N (17 + 11 * i)).toInt ∧ (N (17 + 11 * i)).toInt ≤ 200 := h.2.1
theorem wfg.d (h : wfg b N i) (hs : s < 4) : 0 ≤ (N (18 + 11 * i + s)).toInt ∧ (N (18 + 11 * i + s)).toInt ≤ 999 := h.2.2.1 s hs
theorem wfg.p (h : wfg b N i) : N (22 + 11 * i) = -1 ∨ ∃ s : Nat, s < 60 ∧ N (22 + 11 * i) = nI s := h.2.2.2.1
theorem wfg.u (h : wfg b N i) : 0 ≤ (N (23 + 11 * i)).toInt ∧ (N (23 + 11 * i)).toInt ≤ (N (17 + 11 * i)).toInt := h.2.2.2.2.1
theorem wfg.st (h : wfg b N i) : 0 ≤ (N (24 + 11 * i)).toInt ∧ (N (24 + 11 * i)).toInt + (N (23 + 11 * i)).toInt ≤ 100200 := h.2.2.2.2.2.1
theorem wfg.k (h : wfg b N i) : 0 ≤ (N (25 + 11 * i)).toInt ∧ (N (25 + 11 * i)).toInt ≤ b := h.2.2.2.2.2.2
theorem wfg.mk (h1 : 1 ≤ (N (16 + 11 * i)).toInt ∧ (N (16 + 11 * i)).toInt ≤ 40) (h2 : 1 ≤ (N (17 + 11 * i)).toInt ∧ (N (17 + 11 * i)).toInt ≤ 200) (h3 : ∀ s, s < 4 → 0 ≤ (N (18 + 11 * i + s)).toInt ∧ (N (18 + 11 * i + s)).toInt ≤ 999) (h4 : N (22 + 11 * i) = -1 ∨ ∃ s : Nat, s < 60 ∧ N (22 + 11 * i) = nI s) (h5 : 0 ≤ (N (23 + 11 * i)).toInt ∧ (N (23 + 11 * i)).toInt ≤ (N (17 + 11 * i)).toInt) (h6 : 0 ≤ (N (24 + 11 * i)).toInt ∧ (N (24 + 11 * i)).toInt + (N (23 + 11 * i)).toInt ≤ 100200) (h7 : 0 ≤ (N (25 + 11 * i)).toInt ∧ (N (25 + 11 * i)).toInt ≤ b) : wfg b N i := ⟨h1, h2, h3, h4, h5, h6, h7⟩
/-- the good in a slot -/
theorem ga_l (hs : sfN N) (hw : wfs N G) (hss : s < 60) : ∀ (n i : Nat), (i : Int) ≤ (N 0).toInt → (N 0).toInt - (i : Int) < (n : Int) → (∀ j : Nat, j < i → ¬ N (22 + 11 * j) = nI s) → lp2_X6_goodAt N Z (nI s) n (nI i) = G s := by
  intro n
  induction n with
  | zero => intro i h1 h2 _; exfalso; omega
  | succ n ih =>
    intro i h1 h2 h3
    have h20 : i < 21 := by have := hs.2.1; omega
    rw [lp2_X6_goodAt_s]
    by_cases c : N 0 ≤ nI i
    · rw [if_pos c]
      rw [le_toInt, tI (by omega)] at c
      rcases hw.2 s hss with h | ⟨g, hg, e1, e2⟩
      · exact h.symm
      · exact absurd e2 (h3 g (by omega))
    · rw [if_neg c]
      rw [le_toInt, tI (by omega)] at c
      have hi : (i : Int) < (N 0).toInt := by omega
      rw [o6 (n20 hs hi)]
      by_cases d : N (22 + 11 * i) = nI s
      · rw [if_pos d]; exact (hw.1 i s hi hss d).symm
      · rw [if_neg d, nI_1]
        refine ih (i + 1) (by omega) (by omega) (fun j hj => ?_)
        rcases Nat.lt_succ_iff_lt_or_eq.mp hj with q | q
        · exact h3 j q
        · rw [q]; exact d
theorem ga (hs : sfN N) (hw : wfs N G) (hss : s < 60) : sp_X6_goodAt N Z (nI s) = G s := ga_l hs hw hss 21 0 (by have := hs.1; omega) (by have := hs.2.1; omega) (fun j hj => absurd hj (by omega))
theorem not_isg : ¬ isg N (-1 : Int32) ∨ 1000 ≤ (N 0).toInt := by
  by_cases h : 1000 ≤ (N 0).toInt
  · exact Or.inr h
  · left
    intro q
    obtain ⟨i, hi, e⟩ := q
    exact nI_nm1 (by omega) e.symm
theorem isg_m1 (hs : sfN N) : ¬ isg N (-1 : Int32) := not_isg.resolve_right (by have := hs.2.1; omega)
/-- a slot without a good -/
theorem pfree (hs : sfN N) (hw : wfs N G) (hss : s < 60) : sp_X4_isGood N G (G s) = 0 ↔ G s = -1 := by
  rw [g4 hs]
  constructor
  · intro h
    rcases hw.2 s hss with q | ⟨g, hg, e1, e2⟩
    · exact q
    · exact absurd ⟨g, hg, e1⟩ h
  · intro h
    rw [h]
    exact isg_m1 hs
theorem pplaced (hi : i < 20) (hp : N (22 + 11 * i) = -1 ∨ ∃ s : Nat, s < 60 ∧ N (22 + 11 * i) = nI s) : sp_X4_isPlaced N G (nI i) = 0 ↔ N (22 + 11 * i) = -1 := by
  unfold sp_X4_isPlaced
  rw [xI (by omega), z2]
  constructor
  · intro h
    rcases hp with q | ⟨s, hs, q⟩
    · exact q
    · exact absurd ⟨s, hs, q⟩ h
  · intro h q
    obtain ⟨s, hs, e⟩ := q
    rw [h] at e
    exact nI_nm1 (by omega) e.symm
/-- going: class and model -/
theorem pgo (h : wf b N G) (hi : (i : Int) < (N 0).toInt) (hss : s < 60) : sp_X4_canGo N G (nI i) (nI s) = if N (22 + 11 * i) = nI s then 0 else sp_X6_canGo N Z (nI i) (nI s) := by
  have h20 := h.n20 hi
  have hfree := pfree h.sf h.sl hss
  unfold sp_X4_canGo sp_X6_canGo sp_X6_canMove sp_X6_canExchange
  rw [ga h.sf h.sl hss, o6 h20, xI (show i < 1000 by omega), xI (show s < 1000 by omega), pbears (Z := Z) h20 hss]
  rcases (h.g hi).p with hp | ⟨f, hf, hp⟩
  · rw [hp]
    have c0 : sp_X2_isSlot (-1 : Int32) = 0 := by decide
    rw [if_pos c0, if_neg (fun q => nI_nm1 (by omega) q.symm), if_pos rfl]
    by_cases d : G s = -1
    · rw [if_pos d]
    · rw [if_neg d]
      by_cases e : nI i = G s
      · rw [if_pos e]
      · rw [if_neg e, if_pos rfl]
  · rw [hp]
    have c0 : ¬ sp_X2_isSlot (nI f) = 0 := fun q => z2.mp q ⟨f, hf, rfl⟩
    rw [if_neg c0]
    have c1 : ¬ nI f = (-1 : Int32) := nI_nm1 (by omega)
    by_cases e : nI f = nI s
    · rw [if_pos e, if_pos e]
    · rw [if_neg e, if_neg e, if_neg c1, if_neg c1]
      rcases h.sl.2 s hss with hG | ⟨g, hg, hG, hsl⟩
      · rw [if_pos (hfree.mpr hG), if_pos hG, if_pos hG]
      · have hgn : ¬ G s = -1 := by rw [hG]; exact nI_nm1 (by have := h.n20 hg; omega)
        have hg20 := h.n20 hg
        have hne : ¬ nI i = G s := by
          rw [hG]
          intro q
          have := nI_inj (by omega) (by omega) q
          subst this
          exact e (hp.symm.trans hsl)
        rw [if_neg (fun q => hgn (hfree.mp q)), if_neg hgn, if_neg hne, hG, o6 hg20, hsl, if_neg (nI_nm1 (by omega)), pbears (Z := Z) hg20 hf]
/-- what going saves, walks, is worth -/
theorem psav (h : wf b N G) (hi : (i : Int) < (N 0).toInt) (hss : s < 60) {f : Nat} (hf : f < 60) (hp : N (22 + 11 * i) = nI f) : sp_X4_savedByGoing N G (nI i) (nI s) = sp_X6_goSaves N Z (nI i) (nI s) := by
  have h20 := h.n20 hi
  have hfree := pfree h.sf h.sl hss
  unfold sp_X4_savedByGoing sp_X6_goSaves
  rw [ga h.sf h.sl hss, o6 h20, xI (show i < 1000 by omega), xI (show s < 1000 by omega), psea h.sf, psea4 h.sf, d4 h20 sea_lt, od h20 sea_lt, hp, wkT' f hf, wkT' s hss]
  rcases h.sl.2 s hss with hG | ⟨g, hg, hG, hsl⟩
  · rw [if_pos (hfree.mpr hG), if_pos hG, Int32.mul_comm]
  · have hgn : ¬ G s = -1 := by rw [hG]; exact nI_nm1 (by have := h.n20 hg; omega)
    have hg20 := h.n20 hg
    rw [if_neg (fun q => hgn (hfree.mp q)), if_neg hgn, hG, d4 hg20 sea_lt, od hg20 sea_lt, Int32.mul_comm]
theorem pwof {f : Nat} (h20 : i < 20) (hf : f < 60) (hss : s < 60) : sp_X6_walkOf N Z (nI i) (nI f) (nI s) = sp_X2_wayBetween (nI f) (nI s) + N (16 + 11 * i) := by
  unfold sp_X6_walkOf
  rw [o0 h20, (way' f hf s hss).1]
  by_cases c : nI f / (6 : Int32) ≤ nI s / (6 : Int32)
  · rw [if_pos c, if_pos c]
  · rw [if_neg c, if_neg c]
theorem pwlk (h : wf b N G) (hi : (i : Int) < (N 0).toInt) (hss : s < 60) {f : Nat} (hf : f < 60) (hp : N (22 + 11 * i) = nI f) : sp_X4_walkOfGoing N G (nI i) (nI s) = sp_X6_goWalk N Z (nI i) (nI s) := by
  have h20 := h.n20 hi
  have hfree := pfree h.sf h.sl hss
  unfold sp_X4_walkOfGoing sp_X6_goWalk
  rw [ga h.sf h.sl hss, o6 h20, xI (show i < 1000 by omega), xI (show s < 1000 by omega), hp, pwof h20 hf hss]
  rcases h.sl.2 s hss with hG | ⟨g, hg, hG, hsl⟩
  · rw [if_pos (hfree.mpr hG), if_pos hG]
  · have hgn : ¬ G s = -1 := by rw [hG]; exact nI_nm1 (by have := h.n20 hg; omega)
    have hg20 := h.n20 hg
    rw [if_neg (fun q => hgn (hfree.mp q)), if_neg hgn, hG, xI (show g < 1000 by omega), pwof hg20 hss hf, (way' f hf s hss).2]
theorem pwth (h : wf b N G) (hi : (i : Int) < (N 0).toInt) (hss : s < 60) {f : Nat} (hf : f < 60) (hp : N (22 + 11 * i) = nI f) : sp_X4_worthOfGoing N G (nI i) (nI s) = sp_X6_goWorth N Z (nI i) (nI s) := by
  unfold sp_X4_worthOfGoing sp_X6_goWorth
  rw [psav (Z := Z) h hi hss hf hp, pwlk (Z := Z) h hi hss hf hp]
  rfl
/-- a good that can go stands somewhere -/
theorem pgo_p (h : wf b N G) (hi : (i : Int) < (N 0).toInt) {x : Int32} (c : ¬ sp_X4_canGo N G (nI i) x = 0) : ∃ f : Nat, f < 60 ∧ N (22 + 11 * i) = nI f := by
  have h20 := h.n20 hi
  rcases (h.g hi).p with hp | hp
  · refine absurd ?_ c
    unfold sp_X4_canGo
    rw [xI (show i < 1000 by omega), hp]
    exact if_pos (by decide)
  · exact hp
end PW
