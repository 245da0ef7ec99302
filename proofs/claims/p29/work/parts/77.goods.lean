/-! PURE: writes: goods, demands, placing, taking -/
section PY
variable {N N' G G' : Nat → Int32} {Z : Nat → Nat → Int32} {b : Int} {i s g f : Nat}
theorem ring_d {t S n S1 : Int32} (h : t = S + n) : t + (S1 - S) = S1 + n := by
  subst h
  grind
theorem ring_p {t S n x : Int32} (h : t = S + n) : t + x = S + (x - 0) + n := by
  subst h
  grind
theorem ring_t {t S n d w : Int32} (h : t = S + n) : t + (-d) * w = S + (0 - d * w) + n := by
  subst h
  grind
theorem wf_new (hb : 0 ≤ b) (h : wf b N G) {n : Nat} (hn : (N 0).toInt = (n : Int)) (hn20 : n < 20) {x y : Int32} (hx : 1 ≤ x.toInt ∧ x.toInt ≤ 40) (hy : 1 ≤ y.toInt ∧ y.toInt ≤ 200) : wf b (upd (upd (upd (upd N (16 + 11 * n) x) (17 + 11 * n) y) (22 + 11 * n) (-1)) 0 (N 0 + 1)) G := by
  have e0 : (upd (upd (upd (upd N (16 + 11 * n) x) (17 + 11 * n) y) (22 + 11 * n) (-1)) 0 (N 0 + 1)) 0 = N 0 + 1 := pk_us
  have ex : (upd (upd (upd (upd N (16 + 11 * n) x) (17 + 11 * n) y) (22 + 11 * n) (-1)) 0 (N 0 + 1)) (16 + 11 * n) = x := by simp (disch := omega) only [pk_un, pk_us]
  have ey : (upd (upd (upd (upd N (16 + 11 * n) x) (17 + 11 * n) y) (22 + 11 * n) (-1)) 0 (N 0 + 1)) (17 + 11 * n) = y := by simp (disch := omega) only [pk_un, pk_us]
  have es : (upd (upd (upd (upd N (16 + 11 * n) x) (17 + 11 * n) y) (22 + 11 * n) (-1)) 0 (N 0 + 1)) (22 + 11 * n) = -1 := by simp (disch := omega) only [pk_un, pk_us]
  have q : ∀ k, k ≠ 0 → k ≠ 16 + 11 * n → k ≠ 17 + 11 * n → k ≠ 22 + 11 * n → (upd (upd (upd (upd N (16 + 11 * n) x) (17 + 11 * n) y) (22 + 11 * n) (-1)) 0 (N 0 + 1)) k = N k := fun k h1 h2 h3 h4 => by rw [pk_un h1, pk_un h4, pk_un h3, pk_un h2]
  generalize upd (upd (upd (upd N (16 + 11 * n) x) (17 + 11 * n) y) (22 + 11 * n) (-1)) 0 (N 0 + 1) = M at *
  have eM : (M 0).toInt = (n : Int) + 1 := by
    rw [e0, add_toInt (by rw [show (1 : Int32).toInt = 1 from by decide]; omega) (by rw [show (1 : Int32).toInt = 1 from by decide]; omega), show (1 : Int32).toInt = 1 from by decide, hn]
  obtain ⟨z1, z2, z3, z4, z5⟩ := h.z hn20 (by omega)
  have i0' : (0 : Int32).toInt = 0 := by decide
  refine ⟨?_, fun g hg => ?_, fun g hg hn2 => ?_, ?_, ⟨fun g s hg hs hgs => ?_, fun s hs => ?_⟩, ?_⟩
  · have := h.sf; unfold sfN at this ⊢; rw [eM, q 1 (by omega) (by omega) (by omega) (by omega)]; omega
  · rw [eM] at hg
    by_cases c : g = n
    · subst c
      refine wfg.mk ?_ ?_ ?_ ?_ ?_ ?_ ?_
      · rw [ex]; exact hx
      · rw [ey]; exact hy
      · intro s hs; rw [q _ (by omega) (by omega) (by omega) (by omega), z1 s hs, i0']; omega
      · exact Or.inl es
      · rw [q _ (by omega) (by omega) (by omega) (by omega), z2, i0', ey]; omega
      · rw [q _ (by omega) (by omega) (by omega) (by omega), q _ (by omega) (by omega) (by omega) (by omega), z2, z3, i0']; omega
      · rw [q _ (by omega) (by omega) (by omega) (by omega), z4, i0']; omega
    · have p := h.g (i := g) (by omega)
      refine wfg.mk ?_ ?_ ?_ ?_ ?_ ?_ ?_
      · rw [q _ (by omega) (by omega) (by omega) (by omega)]; exact p.w
      · rw [q _ (by omega) (by omega) (by omega) (by omega)]; exact p.c
      · intro s hs; rw [q _ (by omega) (by omega) (by omega) (by omega)]; exact p.d hs
      · rw [q _ (by omega) (by omega) (by omega) (by omega)]; exact p.p
      · rw [q _ (by omega) (by omega) (by omega) (by omega), q (17 + 11 * g) (by omega) (by omega) (by omega) (by omega)]; exact p.u
      · rw [q _ (by omega) (by omega) (by omega) (by omega), q (23 + 11 * g) (by omega) (by omega) (by omega) (by omega)]; exact p.st
      · rw [q _ (by omega) (by omega) (by omega) (by omega)]; exact p.k
  · rw [eM] at hn2
    obtain ⟨y1, y2, y3, y4, y5⟩ := h.z hg (by omega)
    refine ⟨fun s hs => ?_, ?_, ?_, ?_, ?_⟩
    · rw [q _ (by omega) (by omega) (by omega) (by omega)]; exact y1 s hs
    · rw [q _ (by omega) (by omega) (by omega) (by omega)]; exact y2
    · rw [q _ (by omega) (by omega) (by omega) (by omega)]; exact y3
    · rw [q _ (by omega) (by omega) (by omega) (by omega)]; exact y4
    · rw [q _ (by omega) (by omega) (by omega) (by omega)]; exact y5
  · have := h.t; unfold wft at this ⊢; rw [q 2 (by omega) (by omega) (by omega) (by omega), q 3 (by omega) (by omega) (by omega) (by omega), q 4 (by omega) (by omega) (by omega) (by omega)]; exact this
  · rw [eM] at hg
    by_cases c : g = n
    · subst c; rw [es] at hgs; exact absurd hgs.symm (nI_nm1 (by omega))
    · rw [q _ (by omega) (by omega) (by omega) (by omega)] at hgs
      exact h.sl.1 g s (by omega) hs hgs
  · rcases h.sl.2 s hs with p | ⟨g, hg, p1, p2⟩
    · exact Or.inl p
    · exact Or.inr ⟨g, by omega, p1, by rw [q _ (by omega) (by omega) (by omega) (by omega)]; exact p2⟩
  · have e5 : sea M = sea N := by unfold sea; rw [q 1 (by omega) (by omega) (by omega) (by omega)]
    have e6 : wkS M (sea N) = wkS N (sea N) := by
      unfold wkS
      rw [eM, hn, show ((n : Int) + 1).toNat = n + 1 by omega, show ((n : Int)).toNat = n by omega, sumI_snoc, Nat.zero_add, wkT_no es, Int32.add_zero]
      exact sumI_same n 0 (fun j _ hj => wkT_eq (q _ (by omega) (by omega) (by omega) (by omega)) (q _ (by omega) (by have := sea_lt (N := N); omega) (by have := sea_lt (N := N); omega) (by have := sea_lt (N := N); omega)))
    unfold wfb
    rw [e5, e6, q 10 (by omega) (by omega) (by omega) (by omega), q 9 (by omega) (by omega) (by omega) (by omega)]
    exact h.bs
theorem r_good (hb : 0 ≤ b) (h : wf b N G) {x y : Int32} : stp b N Z (sp_X4_addGood N G x y) (sp_X6_good N Z x y) := by
  unfold sp_X4_addGood sp_X6_good
  dsimp only
  by_cases hx : sp_X6_in x 1 40 = 0
  · rw [if_pos hx, is_in, if_pos hx]
    exact stp_no (by decide)
  · rw [if_neg hx, is_in, if_neg hx]
    by_cases hy : sp_X6_in y 1 200 = 0
    · rw [if_pos hy, is_in, if_pos hy]
      exact stp_no (by decide)
    · rw [if_neg hy, is_in, if_neg hy]
      have qx := min_of hx
      have qy := min_of hy
      rw [show (1 : Int32).toInt = 1 from by decide, show (40 : Int32).toInt = 40 from by decide] at qx
      rw [show (1 : Int32).toInt = 1 from by decide, show (200 : Int32).toInt = 200 from by decide] at qy
      have hs := h.sf
      obtain ⟨n, hn, e⟩ := nI_ofI hs.1
      have hn0 : (N 0).toInt = (n : Int) := by rw [e, nI_toInt hn]
      have h20 : n ≤ 20 := by have := hs.2.1; omega
      by_cases c : N 0 = (20 : Int32)
      · rw [if_neg (by rw [c]; decide), if_pos c]
        exact stp_no (by decide)
      · have c2 : N 0 < (20 : Int32) := by
          have := lv_neT c (a := 20) (by decide)
          rw [lt_toInt, show (20 : Int32).toInt = 20 from by decide]
          omega
        have hn20 : n < 20 := by
          rw [lt_toInt, show (20 : Int32).toInt = 20 from by decide] at c2
          omega
        have q0 : ∀ M : Nat → Int32, ∀ v, upd M (16 + 11 * n) v 0 = M 0 := fun M v => pk_un (by omega)
        have q1 : ∀ M : Nat → Int32, ∀ v, upd M (17 + 11 * n) v 0 = M 0 := fun M v => pk_un (by omega)
        have q2 : ∀ M : Nat → Int32, ∀ v, upd M (22 + 11 * n) v 0 = M 0 := fun M v => pk_un (by omega)
        have ei : ix (N 0) = n := by rw [e]; exact ixI hn
        rw [if_pos c2, if_neg c, ei, q0, ei, q1, q0, ei, q2, q1, q0, pk_us]
        have l0' := l0 (N := N) (Z := sp_X6_records N Z) (v := x) hn20
        rw [← e] at l0'
        have l1' := l1 (N := upd N (16 + 11 * n) x) (Z := sp_X6_records N Z) (v := y) hn20
        rw [← e] at l1'
        have l6' := l6 (N := upd (upd N (16 + 11 * n) x) (17 + 11 * n) y) (Z := sp_X6_records N Z) (v := -1) hn20
        rw [← e] at l6'
        rw [l0', l1', l6', q2, q1, q0]
        have ea : N 0 + 1 - 1 = N 0 := by
          rw [Int32.sub_eq_add_neg, Int32.add_assoc, Int32.add_right_neg, Int32.add_zero]
        exact stp_yes ea (by rw [ea, lt_toInt, i0]; omega) (fun _ _ => rfl) (wf_new hb h hn0 hn20 qx qy)
  -- demands
theorem wf_dem {v w : Int32} (hv : 0 ≤ v.toInt ∧ v.toInt ≤ 999) (h : wf b N G) (hi : (i : Int) < (N 0).toInt) (hs : s < 4) (hw : w = N 10 + (wkS (upd N (18 + 11 * i + s) v) (sea N) - wkS N (sea N))) : wf b (upd (upd N (18 + 11 * i + s) v) 10 w) G := by
  have h20 := h.n20 hi
  have ed : (upd (upd N (18 + 11 * i + s) v) 10 w) (18 + 11 * i + s) = v := by rw [pk_un (by omega)]; exact pk_us
  have e10 : (upd (upd N (18 + 11 * i + s) v) 10 w) 10 = w := pk_us
  have q : ∀ k, k ≠ 18 + 11 * i + s → k ≠ 10 → (upd (upd N (18 + 11 * i + s) v) 10 w) k = N k := fun k h1 h2 => by rw [pk_un h2, pk_un h1]
  have q1 : ∀ k, k ≠ 10 → (upd (upd N (18 + 11 * i + s) v) 10 w) k = (upd N (18 + 11 * i + s) v) k := fun k h1 => pk_un h1
  have qk0 : (upd N (18 + 11 * i + s) v) 0 = N 0 := pk_un (by omega)
  generalize upd (upd N (18 + 11 * i + s) v) 10 w = M at *
  generalize upd N (18 + 11 * i + s) v = K at *
  have e0 := q 0 (by omega) (by omega)
  refine ⟨?_, fun g hg => ?_, fun g hg hn => ?_, ?_, ⟨fun g t hg ht hgs => ?_, fun t ht => ?_⟩, ?_⟩
  · have := h.sf; unfold sfN at this ⊢; rw [e0, q 1 (by omega) (by omega)]; exact this
  · rw [e0] at hg
    have p := h.g hg
    refine wfg.mk ?_ ?_ ?_ ?_ ?_ ?_ ?_
    · rw [q _ (by omega) (by omega)]; exact p.w
    · rw [q _ (by omega) (by omega)]; exact p.c
    · intro t ht
      by_cases c : 18 + 11 * g + t = 18 + 11 * i + s
      · rw [c, ed]; exact hv
      · rw [q _ c (by omega)]; exact p.d ht
    · rw [q _ (by omega) (by omega)]; exact p.p
    · rw [q _ (by omega) (by omega), q (17 + 11 * g) (by omega) (by omega)]; exact p.u
    · rw [q _ (by omega) (by omega), q (23 + 11 * g) (by omega) (by omega)]; exact p.st
    · rw [q _ (by omega) (by omega)]; exact p.k
  · rw [e0] at hn
    obtain ⟨z1, z2, z3, z4, z5⟩ := h.z hg hn
    refine ⟨fun t ht => ?_, ?_, ?_, ?_, ?_⟩
    · rw [q _ (by omega) (by omega)]; exact z1 t ht
    · rw [q _ (by omega) (by omega)]; exact z2
    · rw [q _ (by omega) (by omega)]; exact z3
    · rw [q _ (by omega) (by omega)]; exact z4
    · rw [q _ (by omega) (by omega)]; exact z5
  · have := h.t; unfold wft at this ⊢; rw [q 2 (by omega) (by omega), q 3 (by omega) (by omega), q 4 (by omega) (by omega)]; exact this
  · rw [e0] at hg; rw [q _ (by omega) (by omega)] at hgs; exact h.sl.1 g t hg ht hgs
  · rcases h.sl.2 t ht with p | ⟨g, hg, p1, p2⟩
    · exact Or.inl p
    · exact Or.inr ⟨g, by rw [e0]; exact hg, p1, by rw [q _ (by omega) (by omega)]; exact p2⟩
  · have es : sea M = sea N := by unfold sea; rw [q 1 (by omega) (by omega)]
    unfold wfb
    rw [es, e10, q 9 (by omega) (by omega), wkS_0 (N := K) (e0.trans qk0.symm) (fun j => wkT_eq (q1 _ (by omega)) (q1 _ (by omega))), hw]
    exact ring_d h.bs
theorem r_demand (h : wf b N G) {x y w : Int32} : stp b N Z (sp_X4_changeDemand N G x y w) (sp_X6_demand N Z x y w) := by
  unfold sp_X4_changeDemand sp_X6_demand
  dsimp only
  by_cases hg : isg N x
  · rw [if_neg (fun q => (g4 h.sf).mp q hg), if_neg (fun q => (g6 h.sf).mp q hg)]
    by_cases hy : ∃ s : Nat, s < 4 ∧ y = nI s
    · rw [if_neg (fun q => q46.mp q hy), if_neg (fun q => q6.mp q hy)]
      by_cases hw : sp_X6_in w 0 999 = 0
      · rw [if_pos hw, is_in, if_pos hw]
        exact stp_no (by decide)
      · rw [if_neg hw, is_in, if_neg hw]
        have q := min_of hw
        rw [i0, show (999 : Int32).toInt = 999 from by decide] at q
        obtain ⟨i, hi, rfl⟩ := hg
        obtain ⟨s, hs, rfl⟩ := hy
        have h20 := h.n20 hi
        have p := (h.g hi).d hs
        have hsK : sfN (upd N (18 + 11 * i + s) w) := sf_u (by omega) h.sf
        have eK : sea (upd N (18 + 11 * i + s) w) = sea N := by unfold sea; rw [pk_un (by omega)]
        rw [dix h20 hs, d4 h20 hs, od h20 hs, ld h20 hs, psea hsK, psea h.sf, eK, wk6 hsK sea_lt, wk6 h.sf sea_lt, a5]
        refine stp_yes rfl (by rw [lt_toInt, i0]; omega) (fun j hj => (pk_un hj).symm) (wf_dem q h hi hs ?_)
        rw [pk_un (by omega)]
    · rw [if_pos (q46.mpr hy), if_pos (q6.mpr hy)]
      exact stp_no (by decide)
  · rw [if_pos ((g4 h.sf).mpr hg), if_pos ((g6 h.sf).mpr hg)]
    exact stp_no (by decide)
theorem wf_place (h : wf b N G) (hi : (i : Int) < (N 0).toInt) (hs : s < 60) (hp : N (22 + 11 * i) = -1) (hG : G s = -1) : wf b (upd (upd N (22 + 11 * i) (nI s)) 10 (N 10 + N (18 + 11 * i + sea N) * sp_X6_walk (nI s))) (upd G s (nI i)) := by
  have h20 := h.n20 hi
  have ei : (upd (upd N (22 + 11 * i) (nI s)) 10 (N 10 + N (18 + 11 * i + sea N) * sp_X6_walk (nI s))) (22 + 11 * i) = nI s := by rw [pk_un (by omega)]; exact pk_us
  have e10 : (upd (upd N (22 + 11 * i) (nI s)) 10 (N 10 + N (18 + 11 * i + sea N) * sp_X6_walk (nI s))) 10 = N 10 + N (18 + 11 * i + sea N) * sp_X6_walk (nI s) := pk_us
  have q : ∀ k, k ≠ 22 + 11 * i → k ≠ 10 → (upd (upd N (22 + 11 * i) (nI s)) 10 (N 10 + N (18 + 11 * i + sea N) * sp_X6_walk (nI s))) k = N k := fun k h1 h2 => by rw [pk_un h2, pk_un h1]
  have qs : slq N (upd (upd N (22 + 11 * i) (nI s)) 10 (N 10 + N (18 + 11 * i + sea N) * sp_X6_walk (nI s))) := slq_u (Or.inl (by omega)) (slq_u (Or.inr (by omega)) slq_rf)
  generalize upd (upd N (22 + 11 * i) (nI s)) 10 (N 10 + N (18 + 11 * i + sea N) * sp_X6_walk (nI s)) = M at *
  have e0 := q 0 (by omega) (by omega)
  refine qs.wf h (fun g hg => ?_) ⟨fun g t hg ht hgt => ?_, fun t ht => ?_⟩ ?_
  · by_cases c : g = i
    · subst c; exact Or.inr ⟨s, hs, ei⟩
    · rw [q _ (by omega) (by omega)]; exact (h.g hg).p
  · rw [e0] at hg
    have hg20 := h.n20 hg
    by_cases c : g = i
    · subst c
      rw [ei] at hgt
      have := nI_inj (by omega) (by omega) hgt
      subst this
      exact pk_us
    · rw [q _ (by omega) (by omega)] at hgt
      have p := h.sl.1 g t hg ht hgt
      have c1 : t ≠ s := fun e => by subst e; rw [hG] at p; exact nI_nm1 (by omega) p.symm
      rw [pk_un c1]
      exact p
  · by_cases c1 : t = s
    · subst c1
      exact Or.inr ⟨i, by rw [e0]; exact hi, pk_us, ei⟩
    · rw [pk_un c1]
      rcases h.sl.2 t ht with p | ⟨g, hg, p1, p2⟩
      · exact Or.inl p
      · have c : g ≠ i := fun e => by subst e; rw [hp] at p2; exact nI_nm1 (by omega) p2.symm
        exact Or.inr ⟨g, by rw [e0]; exact hg, p1, by rw [q _ (by omega) (by omega)]; exact p2⟩
  · unfold wfb
    rw [qs.seq, e10, q 9 (by omega) (by omega), wkS_1 (N := N) sea_lt h.sf e0 hi (fun j hj => wkT_eq (q _ (by omega) (by omega)) (q _ (by have := sea_lt (N := N); omega) (by omega))), wkT_at hs ei, wkT_no hp, q _ (by have := sea_lt (N := N); omega) (by omega)]
    exact ring_p h.bs
theorem r_place (h : wf b N G) {x y : Int32} : stp b N Z (sp_X4_putIntoSlot N G x y) (sp_X6_place N Z x y) := by
  unfold sp_X4_putIntoSlot sp_X6_place sp_X4_standIn
  dsimp only
  by_cases hg : isg N x
  · rw [if_neg (fun q => (g4 h.sf).mp q hg), if_neg (fun q => (g6 h.sf).mp q hg)]
    by_cases hx : iss y
    · rw [if_neg (fun q => z2.mp q hx), if_neg (fun q => z6.mp q hx)]
      obtain ⟨i, hi, rfl⟩ := hg
      obtain ⟨s, hs, rfl⟩ := hx
      have h20 := h.n20 hi
      rw [xI (show s < 1000 by omega), xI (show i < 1000 by omega), ga h.sf h.sl hs, o6 h20, pbears (Z := Z) h20 hs]
      by_cases c1 : N (22 + 11 * i) = -1
      · rw [if_pos ((pplaced h20 (h.g hi).p).mpr c1), if_pos c1]
        by_cases c2 : G s = -1
        · rw [if_pos ((pfree h.sf h.sl hs).mpr c2), if_pos c2]
          by_cases c3 : sp_X6_mayBe N Z (nI i) (nI s) = 0
          · rw [if_pos c3, if_pos c3]
            exact stp_no (by decide)
          · have hsK : sfN (upd N (22 + 11 * i) (nI s)) := sf_u (by omega) h.sf
            have eK : sea (upd N (22 + 11 * i) (nI s)) = sea N := by unfold sea; rw [pk_un (by omega)]
            have ws := wk_lo s hs
            rw [if_neg c3, if_neg c3, l6 h20, psea hsK, eK, od h20 sea_lt, a5, wkT' s hs, pk_un (show 18 + 11 * i + sea N ≠ 22 + 11 * i by have := sea_lt (N := N); omega), pk_un (show (10 : Nat) ≠ 22 + 11 * i by omega)]
            exact stp_yes rfl (by rw [lt_toInt, i0]; omega) (fun j hj => (pk_un hj).symm) (wf_place h hi hs c1 c2)
        · rw [if_neg (fun q => c2 ((pfree h.sf h.sl hs).mp q)), if_neg c2]
          exact stp_no (by decide)
      · rw [if_neg (fun q => c1 ((pplaced h20 (h.g hi).p).mp q)), if_neg c1]
        exact stp_no (by decide)
    · rw [if_pos (z2.mpr hx), if_pos (z6.mpr hx)]
      exact stp_no (by decide)
  · rw [if_pos ((g4 h.sf).mpr hg), if_pos ((g6 h.sf).mpr hg)]
    exact stp_no (by decide)
theorem wf_take (h : wf b N G) (hi : (i : Int) < (N 0).toInt) (hf : f < 60) (hp : N (22 + 11 * i) = nI f) : wf b (upd (upd (upd (upd N 10 (N 10 + (-(N (18 + 11 * i + sea N))) * sp_X6_walk (nI f))) (24 + 11 * i) (N (24 + 11 * i) + N (23 + 11 * i))) (23 + 11 * i) 0) (22 + 11 * i) (-1)) (upd G f (-1)) := by
  have h20 := h.n20 hi
  have ei : (upd (upd (upd (upd N 10 (N 10 + (-(N (18 + 11 * i + sea N))) * sp_X6_walk (nI f))) (24 + 11 * i) (N (24 + 11 * i) + N (23 + 11 * i))) (23 + 11 * i) 0) (22 + 11 * i) (-1)) (22 + 11 * i) = -1 := pk_us
  have e23 : (upd (upd (upd (upd N 10 (N 10 + (-(N (18 + 11 * i + sea N))) * sp_X6_walk (nI f))) (24 + 11 * i) (N (24 + 11 * i) + N (23 + 11 * i))) (23 + 11 * i) 0) (22 + 11 * i) (-1)) (23 + 11 * i) = 0 := by simp (disch := omega) only [pk_un, pk_us]
  have e24 : (upd (upd (upd (upd N 10 (N 10 + (-(N (18 + 11 * i + sea N))) * sp_X6_walk (nI f))) (24 + 11 * i) (N (24 + 11 * i) + N (23 + 11 * i))) (23 + 11 * i) 0) (22 + 11 * i) (-1)) (24 + 11 * i) = N (24 + 11 * i) + N (23 + 11 * i) := by simp (disch := omega) only [pk_un, pk_us]
  have e10 : (upd (upd (upd (upd N 10 (N 10 + (-(N (18 + 11 * i + sea N))) * sp_X6_walk (nI f))) (24 + 11 * i) (N (24 + 11 * i) + N (23 + 11 * i))) (23 + 11 * i) 0) (22 + 11 * i) (-1)) 10 = N 10 + (-(N (18 + 11 * i + sea N))) * sp_X6_walk (nI f) := by simp (disch := omega) only [pk_un, pk_us]
  have q : ∀ k, k ≠ 22 + 11 * i → k ≠ 23 + 11 * i → k ≠ 24 + 11 * i → k ≠ 10 → (upd (upd (upd (upd N 10 (N 10 + (-(N (18 + 11 * i + sea N))) * sp_X6_walk (nI f))) (24 + 11 * i) (N (24 + 11 * i) + N (23 + 11 * i))) (23 + 11 * i) 0) (22 + 11 * i) (-1)) k = N k := fun k h1 h2 h3 h4 => by rw [pk_un h1, pk_un h2, pk_un h3, pk_un h4]
  generalize upd (upd (upd (upd N 10 (N 10 + (-(N (18 + 11 * i + sea N))) * sp_X6_walk (nI f))) (24 + 11 * i) (N (24 + 11 * i) + N (23 + 11 * i))) (23 + 11 * i) 0) (22 + 11 * i) (-1) = M at *
  have e0 := q 0 (by omega) (by omega) (by omega) (by omega)
  have p0 := h.g hi
  have p1 := p0.st
  have p2 := p0.u
  have p3 := p0.c
  have hfi := h.sl.1 i f hi hf hp
  refine ⟨?_, fun g hg => ?_, fun g hg hn => ?_, ?_, ⟨fun g t hg ht hgt => ?_, fun t ht => ?_⟩, ?_⟩
  · have := h.sf; unfold sfN at this ⊢; rw [e0, q 1 (by omega) (by omega) (by omega) (by omega)]; exact this
  · rw [e0] at hg
    by_cases c : g = i
    · subst c
      refine wfg.mk ?_ ?_ ?_ (Or.inl ei) ?_ ?_ ?_
      · rw [q _ (by omega) (by omega) (by omega) (by omega)]; exact p0.w
      · rw [q _ (by omega) (by omega) (by omega) (by omega)]; exact p0.c
      · intro s hs; rw [q _ (by omega) (by omega) (by omega) (by omega)]; exact p0.d hs
      · rw [e23, q _ (by omega) (by omega) (by omega) (by omega), i0]; omega
      · rw [e23, e24, i0, add_toInt (by omega) (by omega)]; omega
      · rw [q _ (by omega) (by omega) (by omega) (by omega)]; exact p0.k
    · have p := h.g hg
      refine wfg.mk ?_ ?_ ?_ ?_ ?_ ?_ ?_
      · rw [q _ (by omega) (by omega) (by omega) (by omega)]; exact p.w
      · rw [q _ (by omega) (by omega) (by omega) (by omega)]; exact p.c
      · intro s hs; rw [q _ (by omega) (by omega) (by omega) (by omega)]; exact p.d hs
      · rw [q _ (by omega) (by omega) (by omega) (by omega)]; exact p.p
      · rw [q _ (by omega) (by omega) (by omega) (by omega), q (17 + 11 * g) (by omega) (by omega) (by omega) (by omega)]; exact p.u
      · rw [q _ (by omega) (by omega) (by omega) (by omega), q (23 + 11 * g) (by omega) (by omega) (by omega) (by omega)]; exact p.st
      · rw [q _ (by omega) (by omega) (by omega) (by omega)]; exact p.k
  · rw [e0] at hn
    have c : g ≠ i := by omega
    obtain ⟨z1, z2, z3, z4, z5⟩ := h.z hg hn
    refine ⟨fun s hs => ?_, ?_, ?_, ?_, ?_⟩
    · rw [q _ (by omega) (by omega) (by omega) (by omega)]; exact z1 s hs
    · rw [q _ (by omega) (by omega) (by omega) (by omega)]; exact z2
    · rw [q _ (by omega) (by omega) (by omega) (by omega)]; exact z3
    · rw [q _ (by omega) (by omega) (by omega) (by omega)]; exact z4
    · rw [q _ (by omega) (by omega) (by omega) (by omega)]; exact z5
  · have := h.t; unfold wft at this ⊢; rw [q 2 (by omega) (by omega) (by omega) (by omega), q 3 (by omega) (by omega) (by omega) (by omega), q 4 (by omega) (by omega) (by omega) (by omega)]; exact this
  · rw [e0] at hg
    have hg20 := h.n20 hg
    by_cases c : g = i
    · subst c; rw [ei] at hgt; exact absurd hgt.symm (nI_nm1 (by omega))
    · rw [q _ (by omega) (by omega) (by omega) (by omega)] at hgt
      have p := h.sl.1 g t hg ht hgt
      have c1 : t ≠ f := fun e => by subst e; rw [hfi] at p; exact c (nI_inj (by omega) (by omega) p.symm)
      rw [pk_un c1]
      exact p
  · by_cases c1 : t = f
    · subst c1; exact Or.inl pk_us
    · rw [pk_un c1]
      rcases h.sl.2 t ht with p | ⟨g, hg, r1, r2⟩
      · exact Or.inl p
      · have c : g ≠ i := fun e => by subst e; rw [hp] at r2; exact c1 (nI_inj (by omega) (by omega) r2.symm)
        exact Or.inr ⟨g, by rw [e0]; exact hg, r1, by rw [q _ (by omega) (by omega) (by omega) (by omega)]; exact r2⟩
  · have es : sea M = sea N := by unfold sea; rw [q 1 (by omega) (by omega) (by omega) (by omega)]
    unfold wfb
    rw [es, e10, q 9 (by omega) (by omega) (by omega) (by omega), wkS_1 (N := N) sea_lt h.sf e0 hi (fun j hj => wkT_eq (q _ (by omega) (by omega) (by omega) (by omega)) (q _ (by have := sea_lt (N := N); omega) (by have := sea_lt (N := N); omega) (by have := sea_lt (N := N); omega) (by omega))), wkT_at hf hp, wkT_no ei]
    exact ring_t h.bs
theorem r_take (h : wf b N G) {x : Int32} : stp b N Z (sp_X4_takeOutOfSlot N G x) (sp_X6_take N Z x) := by
  unfold sp_X4_takeOutOfSlot sp_X6_take
  dsimp only
  by_cases hg : isg N x
  · rw [if_neg (fun q => (g4 h.sf).mp q hg), if_neg (fun q => (g6 h.sf).mp q hg)]
    obtain ⟨i, hi, rfl⟩ := hg
    have h20 := h.n20 hi
    have p2 := (h.g hi).u
    rw [xI (show i < 1000 by omega), o6 h20]
    rcases (h.g hi).p with c1 | ⟨f, hf, hp⟩
    · rw [if_pos ((pplaced h20 (h.g hi).p).mpr c1), if_pos c1]
      exact stp_no (by decide)
    · have c1 : ¬ N (22 + 11 * i) = -1 := by rw [hp]; exact nI_nm1 (by omega)
      rw [if_neg (fun q => c1 ((pplaced h20 (h.g hi).p).mp q)), if_neg c1, o6 h20, o7 h20, psea h.sf, od h20 sea_lt, hp, a5, o8 h20, l8 h20, l7 h20, l6 h20]
      have e1 : ∀ A v w, upd (upd A (24 + 11 * i) v) (23 + 11 * i) w (22 + 11 * i) = A (22 + 11 * i) := fun A v w => by rw [pk_un (by omega), pk_un (by omega)]
      rw [e1, hp, xI (show f < 1000 by omega), pk_un (show 24 + 11 * i ≠ 10 by omega)]
      refine stp_yes rfl (by rw [lt_toInt, i0]; omega) (fun j hj => ?_) (wf_take h hi hf hp)
      by_cases d1 : j = 22 + 11 * i
      · rw [d1, pk_us, pk_us]
      · rw [pk_un d1, pk_un d1]
        by_cases d2 : j = 23 + 11 * i
        · rw [d2, pk_us, pk_us]
        · rw [pk_un d2, pk_un d2]
          by_cases d3 : j = 24 + 11 * i
          · rw [d3, pk_us, pk_us]
          · rw [pk_un d3, pk_un d3, pk_un hj]
  · rw [if_pos ((g4 h.sf).mpr hg), if_pos ((g6 h.sf).mpr hg)]
    exact stp_no (by decide)
end PY
