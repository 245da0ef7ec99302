/-! PURE: reads -/
section PR
variable {N G : Nat → Int32} {Z : Nat → Nat → Int32} {b : Int}
theorem cgo {k i : Nat} (hs : sfN N) (h : (N 0).toInt = (i : Int) + ((k + 1 : Nat) : Int)) : ¬ N 0 ≤ nI i ∧ (i : Int) < (N 0).toInt := by
  have := hs.2.1
  refine ⟨?_, by omega⟩
  rw [le_toInt, tI (by omega)]
  omega
theorem cend {i : Nat} (hs : sfN N) (h : (N 0).toInt = (i : Int) + ((0 : Nat) : Int)) : N 0 ≤ nI i := by
  have := hs.2.1
  rw [le_toInt, tI (by omega)]
  omega
theorem cst (hs : sfN N) : (N 0).toInt = ((0 : Nat) : Int) + (((N 0).toInt.toNat : Nat) : Int) ∧ (N 0).toInt.toNat < 21 := by
  have := hs.1
  have := hs.2.1
  omega
theorem wk4_l (h : wf b N G) {s : Nat} (hs4 : s < 4) : ∀ (k fuel i : Nat) (v : Int32), (N 0).toInt = (i : Int) + (k : Int) → k < fuel → lp4_X4_weeklyWalk N G (nI s) fuel v (nI i) = v + sumI (wkT N s) k i := by
  intro k
  induction k with
  | zero =>
    intro fuel i v hk hf
    cases fuel with
    | zero => exact absurd hf (by omega)
    | succ f => rw [lp4_X4_weeklyWalk_s, if_pos (cend h.sf hk)]; exact (Int32.add_zero v).symm
  | succ k ih =>
    intro fuel i v hk hf
    cases fuel with
    | zero => exact absurd hf (by omega)
    | succ f =>
      obtain ⟨c1, hi⟩ := cgo h.sf hk
      have h20 := h.n20 hi
      rw [lp4_X4_weeklyWalk_s, if_neg c1]
      have e1 := ih f (i + 1)
      show _ = v + (wkT N s i + sumI (wkT N s) k (i + 1))
      rw [← Int32.add_assoc]
      rcases (h.g hi).p with hp | ⟨f', hf', hp⟩
      · rw [if_pos ((pplaced h20 (h.g hi).p).mpr hp), nI_1, e1 v (by omega) (by omega)]
        have : wkT N s i = 0 := if_pos hp
        rw [this, Int32.add_zero]
      · have hn : ¬ N (22 + 11 * i) = -1 := by rw [hp]; exact nI_nm1 (by omega)
        rw [if_neg (fun q => hn ((pplaced h20 (h.g hi).p).mp q)), nI_1, e1 _ (by omega) (by omega), xI (show i < 1000 by omega), d4 h20 hs4]
        have : wkT N s i = N (18 + 11 * i + s) * sp_X6_walk (N (22 + 11 * i)) := if_neg hn
        rw [this, hp, wkT' f' hf']
theorem wk6_l (hsf : sfN N) {s : Nat} (hs4 : s < 4) : ∀ (k fuel i : Nat) (v : Int32), (N 0).toInt = (i : Int) + (k : Int) → k < fuel → lp4_X6_weeklyOf N Z (nI s) fuel v (nI i) = v + sumI (wkT N s) k i := by
  intro k
  induction k with
  | zero =>
    intro fuel i v hk hf
    cases fuel with
    | zero => exact absurd hf (by omega)
    | succ f => rw [lp4_X6_weeklyOf_s, if_pos (cend hsf hk)]; exact (Int32.add_zero v).symm
  | succ k ih =>
    intro fuel i v hk hf
    cases fuel with
    | zero => exact absurd hf (by omega)
    | succ f =>
      obtain ⟨c1, hi⟩ := cgo hsf hk
      have h20 := n20 hsf hi
      rw [lp4_X6_weeklyOf_s, if_neg c1, o6 h20, od h20 hs4]
      have e1 := ih f (i + 1)
      show _ = v + (wkT N s i + sumI (wkT N s) k (i + 1))
      rw [← Int32.add_assoc]
      by_cases hp : N (22 + 11 * i) = -1
      · rw [if_pos hp, nI_1, e1 _ (by omega) (by omega)]
        have : wkT N s i = 0 := if_pos hp
        rw [this]
      · rw [if_neg hp, nI_1, e1 _ (by omega) (by omega)]
        have : wkT N s i = N (18 + 11 * i + s) * sp_X6_walk (N (22 + 11 * i)) := if_neg hp
        rw [this]
theorem wk4 (h : wf b N G) {s : Nat} (hs : s < 4) : sp_X4_weeklyWalk N G (nI s) = wkS N s := by
  have c := cst h.sf
  exact (wk4_l h hs _ 21 0 0 c.1 c.2).trans (Int32.zero_add _)
theorem wk6 (hsf : sfN N) {s : Nat} (hs : s < 4) : sp_X6_weeklyOf N Z (nI s) = wkS N s := by
  have c := cst hsf
  exact (wk6_l hsf hs _ 21 0 0 c.1 c.2).trans (Int32.zero_add _)
theorem r_weekly (h : wf b N G) {x : Int32} : (if sp_X5_isSeason x = 0 then (-1 : Int32) else sp_X4_weeklyWalk N G x) = sp_X6_weekly N Z x := by
  unfold sp_X6_weekly
  by_cases c : ∃ s : Nat, s < 4 ∧ x = nI s
  · rw [if_neg (fun q => q46.mp q c), if_neg (fun q => q6.mp q c)]
    obtain ⟨s, hs, rfl⟩ := c
    rw [wk4 h hs, wk6 h.sf hs]
  · rw [if_pos (q46.mpr c), if_pos (q6.mpr c)]
theorem r_account (h : wf b N G) {x : Int32} : sp_X4_numberOfAccount N G x = sp_X6_account N Z x := by
  unfold sp_X4_numberOfAccount sp_X6_account
  by_cases c : sp_X6_in x 0 7 = 0
  · have c0 := min_no c
    rw [i0, show (7 : Int32).toInt = 7 from by decide] at c0
    have ne : ∀ k : Nat, k < 8 → ¬ x = nI k := fun k hk q => c0 (by rw [q, tI (by omega)]; omega)
    have n0 : ¬ x = (0 : Int32) := ne 0 (by omega)
    have n1 : ¬ x = (1 : Int32) := ne 1 (by omega)
    have n2 : ¬ x = (2 : Int32) := ne 2 (by omega)
    have n3 : ¬ x = (3 : Int32) := ne 3 (by omega)
    have n4 : ¬ x = (4 : Int32) := ne 4 (by omega)
    have n5 : ¬ x = (5 : Int32) := ne 5 (by omega)
    have n6 : ¬ x = (6 : Int32) := ne 6 (by omega)
    have n7 : ¬ x = (7 : Int32) := ne 7 (by omega)
    rw [if_pos c, if_neg n0, if_neg n1, if_neg n2, if_neg n3, if_neg n4, if_neg n5, if_neg n6, if_neg n7]
  · rw [if_neg c]
    obtain ⟨k, hk, rfl⟩ := vp_in_of (min8 c) (by decide)
    rcases (show k = 0 ∨ k = 1 ∨ k = 2 ∨ k = 3 ∨ k = 4 ∨ k = 5 ∨ k = 6 ∨ k = 7 by omega) with rfl | rfl | rfl | rfl | rfl | rfl | rfl | rfl
    · exact (Int32.zero_add (N 5)).symm
    · exact (Int32.zero_add (N 6)).symm
    · exact (Int32.zero_add (N 7)).symm
    · exact (Int32.zero_add (N 8)).symm
    · rfl
    · show (100000000 : Int32) + sp_X4_weeklyWalk N G (sp_X4_presentSeason N G) + N 9 = (100000000 : Int32) + N 10
      rw [psea4 h.sf, wk4 h sea_lt, h.bs, Int32.add_assoc]
    · exact (Int32.zero_add (N 11)).symm
    · exact (Int32.zero_add (N 12)).symm
/-- sums over the goods -/
theorem pl_l (h : wf b N G) {x y : Int32} (hxy : (x = 0 ∧ y = 1) ∨ (x = 1 ∧ y = 7)) : ∀ (k fuel i : Nat) (v : Int32), (N 0).toInt = (i : Int) + (k : Int) → k < fuel → lp4_X4_placedGoods N G x fuel v (nI i) = lp4_X6_sumOf N Z y fuel v (nI i) := by
  intro k
  induction k with
  | zero =>
    intro fuel i v hk hf
    cases fuel with
    | zero => exact absurd hf (by omega)
    | succ f => rw [lp4_X4_placedGoods_s, lp4_X6_sumOf_s, if_pos (cend h.sf hk), if_pos (cend h.sf hk)]
  | succ k ih =>
    intro fuel i v hk hf
    cases fuel with
    | zero => exact absurd hf (by omega)
    | succ f =>
      obtain ⟨c1, hi⟩ := cgo h.sf hk
      have h20 := h.n20 hi
      have y5 : ¬ y = (5 : Int32) := by rcases hxy with ⟨_, q⟩ | ⟨_, q⟩ <;> (rw [q]; decide)
      have y6 : ¬ y = (6 : Int32) := by rcases hxy with ⟨_, q⟩ | ⟨_, q⟩ <;> (rw [q]; decide)
      rw [lp4_X4_placedGoods_s, lp4_X6_sumOf_s, if_neg c1, if_neg c1, o6 h20, o7 h20, xI (show i < 1000 by omega), nI_1]
      have e1 : ∀ w, lp4_X4_placedGoods N G x f w (nI (i + 1)) = lp4_X6_sumOf N Z y f w (nI (i + 1)) := fun w => ih f (i + 1) w (by omega) (by omega)
      by_cases hp : N (22 + 11 * i) = -1
      · rw [if_pos ((pplaced h20 (h.g hi).p).mpr hp), if_pos hp, if_neg y5, if_neg y6, Int32.add_zero]
        exact e1 v
      · rw [if_neg (fun q => hp ((pplaced h20 (h.g hi).p).mp q)), if_neg hp, if_neg y5, if_neg y6]
        rcases hxy with ⟨q1, q2⟩ | ⟨q1, q2⟩
        · rw [if_pos q1, if_pos q2]; exact e1 _
        · have x0 : ¬ x = 0 := by rw [q1]; decide
          have y1 : ¬ y = (1 : Int32) := by rw [q2]; decide
          rw [if_neg x0, if_neg y1]
          by_cases hu : N (23 + 11 * i) = 0
          · rw [if_pos hu, if_pos hu]; exact e1 _
          · rw [if_neg hu, if_neg hu, Int32.add_zero]; exact e1 v
theorem s5_l (h : sfN N) : ∀ (k fuel i : Nat) (v : Int32), (N 0).toInt = (i : Int) + (k : Int) → k < fuel → lp4_X4_sumOf5 N G fuel v (nI i) = lp4_X6_sumOf N Z (5 : Int32) fuel v (nI i) := by
  intro k
  induction k with
  | zero =>
    intro fuel i v hk hf
    cases fuel with
    | zero => exact absurd hf (by omega)
    | succ f => rw [lp4_X4_sumOf5_s, lp4_X6_sumOf_s, if_pos (cend h hk), if_pos (cend h hk)]
  | succ k ih =>
    intro fuel i v hk hf
    cases fuel with
    | zero => exact absurd hf (by omega)
    | succ f =>
      obtain ⟨c1, hi⟩ := cgo h hk
      have h20 := n20 h hi
      have c2 : ¬ (20 : Int32) ≤ nI i := by rw [le_toInt, tI (by omega), show (20 : Int32).toInt = 20 from by decide]; omega
      rw [lp4_X4_sumOf5_s, lp4_X6_sumOf_s, if_neg c1, if_neg c1, if_neg c2, o6 h20, o7 h20, xI (show i < 1000 by omega), nI_1, if_pos rfl, if_pos rfl, ite_self]
      exact ih f (i + 1) _ (by omega) (by omega)
theorem s6_l (h : sfN N) : ∀ (k fuel i : Nat) (v : Int32), (N 0).toInt = (i : Int) + (k : Int) → k < fuel → lp4_X4_sumOf6 N G fuel v (nI i) = lp4_X6_sumOf N Z (6 : Int32) fuel v (nI i) := by
  intro k
  induction k with
  | zero =>
    intro fuel i v hk hf
    cases fuel with
    | zero => exact absurd hf (by omega)
    | succ f => rw [lp4_X4_sumOf6_s, lp4_X6_sumOf_s, if_pos (cend h hk), if_pos (cend h hk)]
  | succ k ih =>
    intro fuel i v hk hf
    cases fuel with
    | zero => exact absurd hf (by omega)
    | succ f =>
      obtain ⟨c1, hi⟩ := cgo h hk
      have h20 := n20 h hi
      have c2 : ¬ (20 : Int32) ≤ nI i := by rw [le_toInt, tI (by omega), show (20 : Int32).toInt = 20 from by decide]; omega
      have c3 : ¬ (6 : Int32) = (5 : Int32) := by decide
      rw [lp4_X4_sumOf6_s, lp4_X6_sumOf_s, if_neg c1, if_neg c1, if_neg c2, o6 h20, o8 h20, xI (show i < 1000 by omega), nI_1, if_neg c3, if_neg c3, if_pos rfl, if_pos rfl, ite_self]
      exact ih f (i + 1) _ (by omega) (by omega)
/-- the heights at which a good may be -/
def hm (w : Int32) : Nat → Int32 → Int32
  | 0, _ => 0
  | n + 1, v => if (5 : Int32) ≤ v then v else if sp_X6_most (v + 1) < w then v else hm w n (v + 1)
theorem hm_l {i : Nat} (hi : i < 20) : ∀ (n : Nat) (v : Int32), lp2_X6_highest N Z (nI i) n v = hm (N (16 + 11 * i)) n v := by
  intro n
  induction n with
  | zero => intro v; rfl
  | succ n ih =>
    intro v
    rw [lp2_X6_highest_s, o0 hi, ih]
    rfl
theorem hm_gh : ∀ k, k < 41 → sp_X2_greatestHeightFor (nI k) = hm (nI k) 6 0 := by decide +kernel
theorem r_goodOf (h : wf b N G) {x y : Int32} : sp_X4_numberOfGood N G x y = sp_X6_goodOf N Z x y := by
  unfold sp_X4_numberOfGood sp_X6_goodOf
  by_cases hg : isg N x
  · rw [if_neg (fun q => (g4 h.sf).mp q hg), if_neg (fun q => (g6 h.sf).mp q hg)]
    by_cases hy : sp_X6_in y 0 11 = 0
    · rw [if_pos hy, is_in, if_pos hy]
    · rw [if_neg hy, is_in, if_neg hy]
      obtain ⟨i, hi, rfl⟩ := hg
      have h20 := h.n20 hi
      have q := min_of hy
      rw [i0, show (11 : Int32).toInt = 11 from by decide] at q
      obtain ⟨k, hk, rfl⟩ := vp_in_of (inT (n := 12) q.1 (by omega)) (by decide)
      rw [xI (show i < 1000 by omega)]
      rcases (show k = 0 ∨ k = 1 ∨ k = 2 ∨ k = 3 ∨ k = 4 ∨ k = 5 ∨ k = 6 ∨ k = 7 ∨ k = 8 ∨ k = 9 ∨ k = 10 ∨ k = 11 by omega) with rfl | rfl | rfl | rfl | rfl | rfl | rfl | rfl | rfl | rfl | rfl | rfl
      · exact (o0 (N := N) (Z := Z) h20).symm
      · exact (o1 (N := N) (Z := Z) h20).symm
      · exact (d4 (N := N) (G := G) (s := 0) h20 (by omega)).trans (oa (N := N) (Z := Z) (w := 2) _ (by omega) h20 (by omega)).symm
      · exact (d4 (N := N) (G := G) (s := 1) h20 (by omega)).trans (oa (N := N) (Z := Z) (w := 3) _ (by omega) h20 (by omega)).symm
      · exact (d4 (N := N) (G := G) (s := 2) h20 (by omega)).trans (oa (N := N) (Z := Z) (w := 4) _ (by omega) h20 (by omega)).symm
      · exact (d4 (N := N) (G := G) (s := 3) h20 (by omega)).trans (oa (N := N) (Z := Z) (w := 5) _ (by omega) h20 (by omega)).symm
      · show (if sp_X4_isPlaced N G (nI i) = 0 then (-4 : Int32) else N (22 + 11 * i)) = if sp_X6_of N Z (nI i) (6 : Int32) = -1 then (-4 : Int32) else sp_X6_of N Z (nI i) (6 : Int32)
        rw [o6 h20]
        by_cases hp : N (22 + 11 * i) = -1
        · rw [if_pos ((pplaced h20 (h.g hi).p).mpr hp), if_pos hp]
        · rw [if_neg (fun q => hp ((pplaced h20 (h.g hi).p).mp q)), if_neg hp]
      · exact (o7 (N := N) (Z := Z) h20).symm
      · exact (o8 (N := N) (Z := Z) h20).symm
      · exact (o9 (N := N) (Z := Z) h20).symm
      · exact (o10 (N := N) (Z := Z) h20).symm
      · show sp_X2_greatestHeightFor (N (16 + 11 * i)) = lp2_X6_highest N Z (nI i) 6 0
        rw [hm_l h20]
        have w := (h.g hi).w
        obtain ⟨k, hk, e⟩ := vp_in_of (inT (n := 41) (x := N (16 + 11 * i)) (by omega) (by omega)) (by decide)
        rw [e]
        exact hm_gh k hk
  · rw [if_pos ((g4 h.sf).mpr hg), if_pos ((g6 h.sf).mpr hg)]
theorem r_slotOf (h : wf b N G) {x y : Int32} : sp_X4_numberOfSlot N G x y = sp_X6_slotOf N Z x y := by
  unfold sp_X4_numberOfSlot sp_X6_slotOf
  by_cases hx : iss x
  · rw [if_neg (fun q => z2.mp q hx), if_neg (fun q => z6.mp q hx)]
    obtain ⟨s, hs, rfl⟩ := hx
    by_cases hy : sp_X6_in y 0 2 = 0
    · have c0 := min_no hy
      rw [i0, show (2 : Int32).toInt = 2 from by decide] at c0
      have ne : ∀ k : Nat, k < 3 → ¬ y = nI k := fun k hk q => c0 (by rw [q, tI (by omega)]; omega)
      have n0 : ¬ y = (0 : Int32) := ne 0 (by omega)
      have n1 : ¬ y = (1 : Int32) := ne 1 (by omega)
      have n2 : ¬ y = (2 : Int32) := ne 2 (by omega)
      rw [if_pos hy, if_neg n0, if_neg n1, if_neg n2]
    · rw [if_neg hy]
      obtain ⟨k, hk, rfl⟩ := vp_in_of (min3 hy) (by decide)
      rcases (show k = 0 ∨ k = 1 ∨ k = 2 by omega) with rfl | rfl | rfl
      · show (if sp_X4_isGood N G (G (ix (nI s))) = 0 then (-4 : Int32) else G (ix (nI s))) = if sp_X6_goodAt N Z (nI s) = -1 then (-4 : Int32) else sp_X6_goodAt N Z (nI s)
        rw [xI (show s < 1000 by omega), ga h.sf h.sl hs]
        by_cases c : G s = -1
        · rw [if_pos ((pfree h.sf h.sl hs).mpr c), if_pos c]
        · rw [if_neg (fun q => c ((pfree h.sf h.sl hs).mp q)), if_neg c]
      · exact wkT' s hs
      · exact hvT' s hs
  · rw [if_pos (z2.mpr hx), if_pos (z6.mpr hx)]
theorem r_worth (h : wf b N G) {x y w : Int32} : sp_X4_numberOfChange N G x y w = sp_X6_worth N Z x y w := by
  unfold sp_X4_numberOfChange sp_X6_worth
  by_cases hg : isg N x
  · rw [if_neg (fun q => (g4 h.sf).mp q hg), if_neg (fun q => (g6 h.sf).mp q hg)]
    by_cases hx : iss y
    · rw [if_neg (fun q => z2.mp q hx), if_neg (fun q => z6.mp q hx)]
      by_cases hy : sp_X6_in w 0 2 = 0
      · rw [if_pos hy, is_in, if_pos hy]
      · rw [if_neg hy, is_in, if_neg hy]
        obtain ⟨i, hi, rfl⟩ := hg
        obtain ⟨s, hs, rfl⟩ := hx
        have h20 := h.n20 hi
        have e := pgo (Z := Z) h hi hs
        rw [o6 h20]
        by_cases c1 : N (22 + 11 * i) = nI s
        · rw [if_pos c1] at e
          rw [if_pos e, if_pos c1]
        · rw [if_neg c1] at e
          rw [if_neg c1, ← e]
          by_cases c2 : sp_X4_canGo N G (nI i) (nI s) = 0
          · rw [if_pos c2, if_pos c2]
          · rw [if_neg c2, if_neg c2]
            obtain ⟨f, hf, hp⟩ := pgo_p h hi c2
            rw [pwth (Z := Z) h hi hs hf hp, psav (Z := Z) h hi hs hf hp, pwlk (Z := Z) h hi hs hf hp]
            obtain ⟨k, hk, rfl⟩ := vp_in_of (min3 hy) (by decide)
            rcases (show k = 0 ∨ k = 1 ∨ k = 2 by omega) with rfl | rfl | rfl <;> rfl
    · rw [if_pos (z2.mpr hx), if_pos (z6.mpr hx)]
  · rw [if_pos ((g4 h.sf).mpr hg), if_pos ((g6 h.sf).mpr hg)]
theorem nr_l (h : wf b N G) {i : Nat} (hi : (i : Int) < (N 0).toInt) : ∀ (k fuel s : Nat) (v : Int32), s + k = 60 → k < fuel → (v = (-4 : Int32) ∨ iss v) → lp15_X4_nearestFreeSlot N G (nI i) fuel v (nI s) = lp15_X6_nearest N Z (nI i) fuel v (nI s) := by
  intro k
  induction k with
  | zero =>
    intro fuel s v hk hf hv
    cases fuel with
    | zero => exact absurd hf (by omega)
    | succ f =>
      have c : (60 : Int32) ≤ nI s := by rw [le_toInt, tI (by omega), i60]; omega
      rw [lp15_X4_nearestFreeSlot_s, lp15_X6_nearest_s, if_pos c, if_pos c]
  | succ k ih =>
    intro fuel s v hk hf hv
    cases fuel with
    | zero => exact absurd hf (by omega)
    | succ f =>
      have hss : s < 60 := by omega
      have h20 := h.n20 hi
      have c : ¬ (60 : Int32) ≤ nI s := by rw [le_toInt, tI (by omega), i60]; omega
      rw [lp15_X4_nearestFreeSlot_s, lp15_X6_nearest_s, if_neg c, if_neg c, xI (show s < 1000 by omega), ga h.sf h.sl hss, nI_1, pbears (Z := Z) h20 hss]
      have e1 : ∀ w, (w = (-4 : Int32) ∨ iss w) → lp15_X4_nearestFreeSlot N G (nI i) f w (nI (s + 1)) = lp15_X6_nearest N Z (nI i) f w (nI (s + 1)) := fun w hw => ih f (s + 1) w (by omega) (by omega) hw
      have his : iss (nI s) := ⟨s, hss, rfl⟩
      by_cases c1 : G s = -1
      · rw [if_pos ((pfree h.sf h.sl hss).mpr c1), if_pos c1]
        by_cases c2 : sp_X6_mayBe N Z (nI i) (nI s) = 0
        · rw [if_pos c2, if_pos c2]; exact e1 v hv
        · rw [if_neg c2, if_neg c2]
          rcases hv with rfl | ⟨t, ht, rfl⟩
          · rw [if_pos (by decide : (-4 : Int32) < 0), if_pos rfl]; exact e1 _ (Or.inr his)
          · have d2 : ¬ nI t = (-4 : Int32) := by
              intro e
              have := congrArg Int32.toInt e
              rw [tI (by omega), show (-4 : Int32).toInt = -4 from by decide] at this
              omega
            rw [if_neg (nI_pos (by omega)), if_neg d2, wkT' t ht, wkT' s hss]
            by_cases c3 : sp_X6_walk (nI t) ≤ sp_X6_walk (nI s)
            · rw [if_pos c3, if_pos c3]; exact e1 _ (Or.inr ⟨t, ht, rfl⟩)
            · rw [if_neg c3, if_neg c3]; exact e1 _ (Or.inr his)
      · rw [if_neg (fun q => c1 ((pfree h.sf h.sl hss).mp q)), if_neg c1]; exact e1 v hv
theorem r_nearest (h : wf b N G) {x : Int32} : sp_X4_nearestFreeSlot N G x = sp_X6_nearest N Z x := by
  unfold sp_X4_nearestFreeSlot sp_X6_nearest
  by_cases hg : isg N x
  · rw [if_neg (fun q => (g4 h.sf).mp q hg), if_neg (fun q => (g6 h.sf).mp q hg)]
    obtain ⟨i, hi, rfl⟩ := hg
    exact nr_l h hi 60 61 0 _ rfl (by omega) (Or.inl rfl)
  · rw [if_pos ((g4 h.sf).mpr hg), if_pos ((g6 h.sf).mpr hg)]
end PR
