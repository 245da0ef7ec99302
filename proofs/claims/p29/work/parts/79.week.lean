/-! PURE: the end of a week -/
section PE
variable {N N' G G' : Nat → Int32} {Z : Nat → Nat → Int32} {b : Int} {i s g f : Nat}
/-- only demands of a season and picks of goods that there are differ -/
def ewq (n s : Nat) (N M : Nat → Int32) : Prop := ∀ k, (k < 16 ∨ (16 ≤ k ∧ (k - 16) % 11 ≠ 2 + s ∧ (k - 16) % 11 ≠ 9) ∨ 16 + 11 * n ≤ k) → M k = N k
theorem fc_n {d p : Int32} {b : Int} (hb : b ≤ 100000) (h1 : 0 ≤ d.toInt ∧ d.toInt ≤ 999) (h2 : 0 ≤ p.toInt ∧ p.toInt ≤ b) : 0 ≤ ((((3 : Int32) * d) + p) / (4 : Int32)).toInt := by
  obtain ⟨a, ha, ea⟩ := nat_of (n := 999) h1.1 (by omega)
  obtain ⟨c, hc, ec⟩ := nat_of (n := 100000) h2.1 (by omega)
  rw [ea, ec, show (3 : Int32) = nI 3 from rfl, show (4 : Int32) = nI 4 from rfl, pk_mul, nI_add, pk_div (by omega) (by decide) (by decide), nI_toInt (Nat.lt_of_le_of_lt (Nat.div_le_self _ _) (by omega))]
  omega
theorem ew_l (hb : b ≤ 100000) {n : Nat} (hs : s < 4) (hn : (N 0).toInt = (n : Int)) (hn20 : n ≤ 20) : ∀ (k fuel i : Nat) (M : Nat → Int32), (N 0).toInt = (i : Int) + (k : Int) → k < fuel → ewq n s N M → (∀ g : Nat, (g : Int) < (N 0).toInt → wfg b M g) →
    ∃ M', ewq n s N M' ∧ (∀ g : Nat, (g : Int) < (N 0).toInt → wfg b M' g) ∧ lp20_X4_finishWeek G fuel (nI i) (nI s) M = ((upd M' 1 (M' 1 + 1)) 1, (upd M' 1 (M' 1 + 1), G)) ∧ ∀ (Z : Nat → Nat → Int32) (w : Int32), lp13_X6_ends Z fuel (nI i) w (nI s) M = sp_X6_adds (upd M' 1 (M' 1 + 1)) Z (5 : Int32) ((sp_X6_weeklyOf (upd M' 1 (M' 1 + 1)) Z (sp_X6_season (upd M' 1 (M' 1 + 1)) Z)) - w) := by
  intro k
  induction k with
  | zero =>
    intro fuel i M hk hf hq hg
    cases fuel with
    | zero => exact absurd hf (by omega)
    | succ f =>
      have c : M 0 ≤ nI i := by rw [hq 0 (by omega), le_toInt, tI (by omega)]; omega
      refine ⟨M, hq, hg, ?_, fun Z w => ?_⟩
      · rw [lp20_X4_finishWeek_s, if_pos c]
      · rw [lp13_X6_ends_s, if_pos c]
  | succ k ih =>
    intro fuel i M hk hf hq hg
    cases fuel with
    | zero => exact absurd hf (by omega)
    | succ f =>
      have c : ¬ M 0 ≤ nI i := by rw [hq 0 (by omega), le_toInt, tI (by omega)]; omega
      have hi : (i : Int) < (N 0).toInt := by omega
      have h20 : i < 20 := by omega
      have p := hg i hi
      have hfc := fc_n hb (p.d hs) p.k
      have p1 := p.k
      -- the new demand
      generalize hF : ((((3 : Int32) * M (18 + 11 * i + s)) + M (25 + 11 * i)) / (4 : Int32)) = F at hfc
      have hv : ∃ v : Int32, (0 ≤ v.toInt ∧ v.toInt ≤ 999) ∧ (if (999 : Int32) < F then (999 : Int32) else F) = v ∧ ((F ≤ (999 : Int32) ∧ v = F) ∨ (¬ F ≤ (999 : Int32) ∧ v = 999)) := by
        by_cases d : (999 : Int32) < F
        · exact ⟨999, by decide, if_pos d, Or.inr ⟨fun q => lt_le q d, rfl⟩⟩
        · have d2 : F ≤ (999 : Int32) := nl d
          refine ⟨F, ?_, if_neg d, Or.inl ⟨d2, rfl⟩⟩
          rw [le_toInt, show (999 : Int32).toInt = 999 from by decide] at d2
          exact ⟨hfc, d2⟩
      obtain ⟨v, hv1, hv2, hv3⟩ := hv
      have hq' : ewq n s N (upd (upd M (18 + 11 * i + s) v) (25 + 11 * i) 0) := by
        intro j hj
        rw [pk_un (by omega), pk_un (by omega)]
        exact hq j hj
      have hg' : ∀ g : Nat, (g : Int) < (N 0).toInt → wfg b (upd (upd M (18 + 11 * i + s) v) (25 + 11 * i) 0) g := by
        intro g hgi
        have p := hg g hgi
        refine wfg.mk ?_ ?_ ?_ ?_ ?_ ?_ ?_
        · rw [pk_un (by omega), pk_un (by omega)]; exact p.w
        · rw [pk_un (by omega), pk_un (by omega)]; exact p.c
        · intro t ht
          rw [pk_un (by omega)]
          by_cases d : 18 + 11 * g + t = 18 + 11 * i + s
          · rw [d, pk_us]; exact hv1
          · rw [pk_un d]; exact p.d ht
        · rw [pk_un (by omega), pk_un (by omega)]; exact p.p
        · rw [pk_un (by omega), pk_un (by omega), pk_un (by omega), pk_un (by omega)]; exact p.u
        · rw [pk_un (by omega), pk_un (by omega), pk_un (by omega), pk_un (by omega)]; exact p.st
        · by_cases d : g = i
          · subst d
            rw [pk_us, i0]; omega
          · rw [pk_un (by omega), pk_un (by omega)]; exact p.k
      obtain ⟨M', r1, r2, r3, r4⟩ := ih f (i + 1) _ (by omega) (by omega) hq' hg'
      refine ⟨M', r1, r2, ?_, fun Z w => ?_⟩
      · rw [lp20_X4_finishWeek_s, if_neg c]
        dsimp only
        rw [dix h20 hs, d4 h20 hs, xI (show i < 1000 by omega), hF, hv2, nI_1]
        exact r3
      · rw [lp13_X6_ends_s, if_neg c]
        dsimp only
        rw [od h20 hs, o9 h20, hF]
        rcases hv3 with ⟨d1, d2⟩ | ⟨d1, d2⟩
        · rw [if_pos d1, ld h20 hs, l9 h20, nI_1, ← d2]
          exact r4 Z w
        · rw [if_neg d1, ld h20 hs, l9 h20, nI_1, ← d2]
          exact r4 Z w
theorem week_core (hb : b ≤ 100000) (h : wf b N G) (hw : N 1 < (1000 : Int32)) : ∃ X Y : Nat → Int32, sp_X4_finishWeek N G = (X 1, (X, G)) ∧ (∀ Z, sp_X6_ends N Z = Y) ∧ (∀ j, j ≠ 10 → X j = Y j) ∧ wf b Y G ∧ ¬ X 1 < 0 := by
  have hsf := h.sf
  obtain ⟨n, hn, en⟩ := nI_ofI hsf.1
  have hn0 : (N 0).toInt = (n : Int) := by rw [en, nI_toInt hn]
  have hn20 : n ≤ 20 := by have := hsf.2.1; omega
  have c := cst hsf
  obtain ⟨M, q, qg, e4, e6⟩ := ew_l (G := G) hb (sea_lt (N := N)) hn0 hn20 _ 21 0 N c.1 c.2 (fun _ _ => rfl) (fun g hg => h.g hg)
  have qs : sfN (upd M 1 (M 1 + 1)) := by
    refine sf_wk ?_ (by rw [q 1 (by omega)]; exact hw)
    unfold sfN at hsf ⊢
    rw [q 0 (by omega), q 1 (by omega)]
    exact hsf
  have hX1 : (upd M 1 (M 1 + 1)) 1 = N 1 + 1 := by rw [pk_us, q 1 (by omega)]
  refine ⟨upd M 1 (M 1 + 1), upd (upd M 1 (M 1 + 1)) 10 ((upd M 1 (M 1 + 1)) 10 + (wkS (upd M 1 (M 1 + 1)) (sea (upd M 1 (M 1 + 1))) - wkS N (sea N))), ?_, fun Z => ?_, fun j hj => (pk_un hj).symm, ?_, ?_⟩
  · unfold sp_X4_finishWeek
    rw [if_pos hw, psea4 hsf]
    exact e4
  · unfold sp_X6_ends
    rw [psea hsf, wk6 hsf sea_lt]
    refine (e6 Z _).trans ?_
    rw [psea qs, wk6 qs sea_lt, a5]
  · have q1 : ∀ k, k ≠ 1 → (upd M 1 (M 1 + 1)) k = M k := fun k hk => pk_un hk
    generalize upd M 1 (M 1 + 1) = X at *
    have e10 : (upd X 10 (X 10 + (wkS X (sea X) - wkS N (sea N)))) 10 = X 10 + (wkS X (sea X) - wkS N (sea N)) := pk_us
    have r : ∀ k, k ≠ 10 → (upd X 10 (X 10 + (wkS X (sea X) - wkS N (sea N)))) k = X k := fun k hk => pk_un hk
    generalize upd X 10 (X 10 + (wkS X (sea X) - wkS N (sea N))) = Y at *
    have e0 : Y 0 = N 0 := by rw [r 0 (by omega), q1 0 (by omega), q 0 (by omega)]
    have YM : ∀ k, 2 ≤ k → k ≠ 10 → Y k = M k := fun k h1 h2 => by rw [r k h2, q1 k (by omega)]
    refine ⟨?_, fun g hg => ?_, fun g hg hn2 => ?_, ?_, ⟨fun g t hg ht hgs => ?_, fun t ht => ?_⟩, ?_⟩
    · unfold sfN at qs ⊢
      rw [r 0 (by omega), r 1 (by omega)]
      exact qs
    · rw [e0] at hg
      have p := qg g hg
      refine wfg.mk ?_ ?_ ?_ ?_ ?_ ?_ ?_
      · rw [YM _ (by omega) (by omega)]; exact p.w
      · rw [YM _ (by omega) (by omega)]; exact p.c
      · intro t ht; rw [YM _ (by omega) (by omega)]; exact p.d ht
      · rw [YM _ (by omega) (by omega)]; exact p.p
      · rw [YM _ (by omega) (by omega), YM (17 + 11 * g) (by omega) (by omega)]; exact p.u
      · rw [YM _ (by omega) (by omega), YM (23 + 11 * g) (by omega) (by omega)]; exact p.st
      · rw [YM _ (by omega) (by omega)]; exact p.k
    · rw [e0] at hn2
      obtain ⟨z1, z2, z3, z4, z5⟩ := h.z hg hn2
      have hgn : n ≤ g := by omega
      refine ⟨fun t ht => ?_, ?_, ?_, ?_, ?_⟩
      · rw [YM _ (by omega) (by omega), q _ (by omega)]; exact z1 t ht
      · rw [YM _ (by omega) (by omega), q _ (by omega)]; exact z2
      · rw [YM _ (by omega) (by omega), q _ (by omega)]; exact z3
      · rw [YM _ (by omega) (by omega), q _ (by omega)]; exact z4
      · rw [YM _ (by omega) (by omega), q _ (by omega)]; exact z5
    · have := h.t; unfold wft at this ⊢; rw [YM 2 (by omega) (by omega), YM 3 (by omega) (by omega), YM 4 (by omega) (by omega), q 2 (by omega), q 3 (by omega), q 4 (by omega)]; exact this
    · rw [e0] at hg; rw [YM _ (by omega) (by omega), q _ (by have := sea_lt (N := N); omega)] at hgs; exact h.sl.1 g t hg ht hgs
    · rcases h.sl.2 t ht with p | ⟨g, hg, p1, p2⟩
      · exact Or.inl p
      · exact Or.inr ⟨g, by rw [e0]; exact hg, p1, by rw [YM _ (by omega) (by omega), q _ (by have := sea_lt (N := N); omega)]; exact p2⟩
    · have es : sea Y = sea X := by unfold sea; rw [r 1 (by omega)]
      unfold wfb
      rw [es, e10, YM 9 (by omega) (by omega), q 9 (by omega), q1 10 (by omega), q 10 (by omega), wkS_0 (N := X) (r 0 (by omega)) (fun j => wkT_eq (r _ (by omega)) (r _ (by omega)))]
      exact ring_d h.bs
  · rw [hX1]
    have w1 := hsf.2.2
    rw [lt_toInt, show (1000 : Int32).toInt = 1000 from by decide] at hw
    have := (inc1 (b := 1000) (x := N 1) (by decide) w1.1 (by omega)).1
    rw [lt_toInt, i0]
    omega
theorem r_endWeek (hb : b ≤ 100000) (h : wf b N G) : stp b N Z (sp_X4_finishWeek N G) (sp_X6_endWeek N Z) := by
  unfold sp_X6_endWeek
  dsimp only
  by_cases c : N 1 = (1000 : Int32)
  · rw [if_pos c]
    unfold sp_X4_finishWeek
    rw [if_neg (by rw [c]; decide)]
    exact stp_no (by decide)
  · rw [if_neg c]
    obtain ⟨X, Y, e1, e2, e3, e4, e5⟩ := week_core hb h (wk_lt h.sf c)
    rw [e1, e2]
    exact stp_yes (e3 1 (by omega)) e5 e3 e4
end PE
