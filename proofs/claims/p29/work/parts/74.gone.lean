/-! PURE: going, whole; the best of all; improving -/
section PB
variable {N N' G G' : Nat → Int32} {Z : Nat → Nat → Int32} {b : Int} {i s g f : Nat}
theorem sav_free (h : wf b N G) (hi : (i : Int) < (N 0).toInt) (hss : s < 60) (hp : N (22 + 11 * i) = nI f) (hG : G s = -1) : sp_X6_goSaves N Z (nI i) (nI s) = (sp_X6_walk (nI f) - sp_X6_walk (nI s)) * N (18 + 11 * i + sea N) := by
  have h20 := h.n20 hi
  unfold sp_X6_goSaves
  rw [if_pos ((ga h.sf h.sl hss).trans hG), o6 h20, hp, psea h.sf, od h20 sea_lt]
theorem sav_ex (h : wf b N G) (hi : (i : Int) < (N 0).toInt) (hss : s < 60) (hp : N (22 + 11 * i) = nI f) (hg : (g : Int) < (N 0).toInt) (hG : G s = nI g) : sp_X6_goSaves N Z (nI i) (nI s) = (sp_X6_walk (nI f) - sp_X6_walk (nI s)) * (N (18 + 11 * i + sea N) - N (18 + 11 * g + sea N)) := by
  have h20 := h.n20 hi
  have hg20 := h.n20 hg
  have e1 : sp_X6_goodAt N Z (nI s) = nI g := (ga h.sf h.sl hss).trans hG
  unfold sp_X6_goSaves
  rw [if_neg (by rw [e1]; exact nI_nm1 (by omega)), e1, o6 h20, hp, psea h.sf, od h20 sea_lt, od hg20 sea_lt]
theorem ring_free {t S n a c d : Int32} (h : t = S + n) : t = S + (d * c - d * a) + (n + (a - c) * d) := by
  subst h
  grind
theorem ring_ex {t S n a c d e : Int32} (h : t = S + n) : t = S + (e * a - e * c) + (d * c - d * a) + (n + (a - c) * (d - e)) := by
  subst h
  grind
theorem wf_free (h : wf b N G) (hi : (i : Int) < (N 0).toInt) (hss : s < 60) (hf : f < 60) (hp : N (22 + 11 * i) = nI f) (hG : G s = -1) (w : Int32) : wf b (upd (gA N w ((sp_X6_walk (nI f) - sp_X6_walk (nI s)) * N (18 + 11 * i + sea N))) (22 + 11 * i) (nI s)) (upd (upd G f (-1)) s (nI i)) := by
  have h20 := h.n20 hi
  have q : slq N (upd (gA N w ((sp_X6_walk (nI f) - sp_X6_walk (nI s)) * N (18 + 11 * i + sea N))) (22 + 11 * i) (nI s)) := slq_u (Or.inr (by omega)) gA_q
  have ei : (upd (gA N w ((sp_X6_walk (nI f) - sp_X6_walk (nI s)) * N (18 + 11 * i + sea N))) (22 + 11 * i) (nI s)) (22 + 11 * i) = nI s := pk_us
  have eo : ∀ j, j ≠ i → (upd (gA N w ((sp_X6_walk (nI f) - sp_X6_walk (nI s)) * N (18 + 11 * i + sea N))) (22 + 11 * i) (nI s)) (22 + 11 * j) = N (22 + 11 * j) := fun j hj => by rw [pk_un (by omega), gA_s (by omega)]
  have e9 : (upd (gA N w ((sp_X6_walk (nI f) - sp_X6_walk (nI s)) * N (18 + 11 * i + sea N))) (22 + 11 * i) (nI s)) 9 = N 9 + (sp_X6_walk (nI f) - sp_X6_walk (nI s)) * N (18 + 11 * i + sea N) := by
    unfold gA
    simp (disch := omega) only [pk_un, pk_us]
  have e10 : (upd (gA N w ((sp_X6_walk (nI f) - sp_X6_walk (nI s)) * N (18 + 11 * i + sea N))) (22 + 11 * i) (nI s)) 10 = N 10 := by
    unfold gA
    simp (disch := omega) only [pk_un]
  have ed : ∀ j t, t < 4 → (upd (gA N w ((sp_X6_walk (nI f) - sp_X6_walk (nI s)) * N (18 + 11 * i + sea N))) (22 + 11 * i) (nI s)) (18 + 11 * j + t) = N (18 + 11 * j + t) := fun j t ht => q _ (by omega)
  generalize upd (gA N w ((sp_X6_walk (nI f) - sp_X6_walk (nI s)) * N (18 + 11 * i + sea N))) (22 + 11 * i) (nI s) = M at *
  refine q.wf h (fun g hg => ?_) (wfs_free h.sf h.sl hi hss hf hp hG (q 0 (by omega)) ei eo) ?_
  · by_cases c : g = i
    · subst c; exact Or.inr ⟨s, hss, ei⟩
    · rw [eo g c]; exact (h.g hg).p
  · unfold wfb
    rw [q.seq, e10, e9, wkS_1 (N := N) sea_lt h.sf (q 0 (by omega)) hi (fun j hj => wkT_eq (eo j hj) (ed j _ sea_lt)), wkT_at hss ei, wkT_at hf hp, ed i _ sea_lt]
    exact ring_free h.bs
theorem wf_ex (h : wf b N G) (hi : (i : Int) < (N 0).toInt) (hss : s < 60) (hf : f < 60) (hp : N (22 + 11 * i) = nI f) (hg : (g : Int) < (N 0).toInt) (hsl : N (22 + 11 * g) = nI s) (hne : g ≠ i) (w : Int32) : wf b (upd (upd (gA N w ((sp_X6_walk (nI f) - sp_X6_walk (nI s)) * (N (18 + 11 * i + sea N) - N (18 + 11 * g + sea N)))) (22 + 11 * g) (nI f)) (22 + 11 * i) (nI s)) (upd (upd (upd G f (-1)) f (nI g)) s (nI i)) := by
  have h20 := h.n20 hi
  have hg20 := h.n20 hg
  have hA : slq N (gA N w ((sp_X6_walk (nI f) - sp_X6_walk (nI s)) * (N (18 + 11 * i + sea N) - N (18 + 11 * g + sea N)))) := gA_q
  have hA9 : gA N w ((sp_X6_walk (nI f) - sp_X6_walk (nI s)) * (N (18 + 11 * i + sea N) - N (18 + 11 * g + sea N))) 9 = N 9 + (sp_X6_walk (nI f) - sp_X6_walk (nI s)) * (N (18 + 11 * i + sea N) - N (18 + 11 * g + sea N)) := by
    unfold gA
    simp (disch := omega) only [pk_un, pk_us]
  have hA10 : gA N w ((sp_X6_walk (nI f) - sp_X6_walk (nI s)) * (N (18 + 11 * i + sea N) - N (18 + 11 * g + sea N))) 10 = N 10 := by
    unfold gA
    simp (disch := omega) only [pk_un]
  have hAs : ∀ j, 16 ≤ j → gA N w ((sp_X6_walk (nI f) - sp_X6_walk (nI s)) * (N (18 + 11 * i + sea N) - N (18 + 11 * g + sea N))) j = N j := fun j hj => gA_s hj
  generalize gA N w ((sp_X6_walk (nI f) - sp_X6_walk (nI s)) * (N (18 + 11 * i + sea N) - N (18 + 11 * g + sea N))) = B at *
  have qK : slq N (upd B (22 + 11 * g) (nI f)) := slq_u (Or.inr (by omega)) hA
  have q : slq N (upd (upd B (22 + 11 * g) (nI f)) (22 + 11 * i) (nI s)) := slq_u (Or.inr (by omega)) qK
  have ei : (upd (upd B (22 + 11 * g) (nI f)) (22 + 11 * i) (nI s)) (22 + 11 * i) = nI s := pk_us
  have kg : (upd B (22 + 11 * g) (nI f)) (22 + 11 * g) = nI f := pk_us
  have ko : ∀ j, j ≠ g → (upd B (22 + 11 * g) (nI f)) (22 + 11 * j) = N (22 + 11 * j) := fun j hj => by rw [pk_un (by omega), hAs _ (by omega)]
  have ek : ∀ j, j ≠ i → (upd (upd B (22 + 11 * g) (nI f)) (22 + 11 * i) (nI s)) (22 + 11 * j) = (upd B (22 + 11 * g) (nI f)) (22 + 11 * j) := fun j hj => pk_un (by omega)
  have e9 : (upd (upd B (22 + 11 * g) (nI f)) (22 + 11 * i) (nI s)) 9 = N 9 + (sp_X6_walk (nI f) - sp_X6_walk (nI s)) * (N (18 + 11 * i + sea N) - N (18 + 11 * g + sea N)) := by rw [pk_un (by omega), pk_un (by omega), hA9]
  have e10 : (upd (upd B (22 + 11 * g) (nI f)) (22 + 11 * i) (nI s)) 10 = N 10 := by rw [pk_un (by omega), pk_un (by omega), hA10]
  generalize upd (upd B (22 + 11 * g) (nI f)) (22 + 11 * i) (nI s) = M at *
  generalize upd B (22 + 11 * g) (nI f) = K at *
  have eo : ∀ j, j ≠ i → j ≠ g → M (22 + 11 * j) = N (22 + 11 * j) := fun j h1 h2 => (ek j h1).trans (ko j h2)
  have eg : M (22 + 11 * g) = nI f := (ek g hne).trans kg
  refine q.wf h (fun j hj => ?_) (wfs_ex h.sf h.sl hi hss hf hp hg hsl hne (q 0 (by omega)) ei eg eo) ?_
  · by_cases c : j = i
    · subst c; exact Or.inr ⟨s, hss, ei⟩
    · by_cases c2 : j = g
      · subst c2; exact Or.inr ⟨f, hf, eg⟩
      · rw [eo j c c2]; exact (h.g hj).p
  · have hsK : sfN K := by have := h.sf; unfold sfN at this ⊢; rw [qK 0 (by omega), qK 1 (by omega)]; exact this
    have s1 : wkS M (sea N) = wkS K (sea N) + (wkT M (sea N) i - wkT K (sea N) i) := wkS_1 sea_lt hsK ((q 0 (by omega)).trans (qK 0 (by omega)).symm) (by rw [qK 0 (by omega)]; exact hi) (fun j hj => wkT_eq (ek j hj) ((q _ (by have := sea_lt (N := N); omega)).trans (qK _ (by have := sea_lt (N := N); omega)).symm))
    have s2 : wkS K (sea N) = wkS N (sea N) + (wkT K (sea N) g - wkT N (sea N) g) := wkS_1 sea_lt h.sf (qK 0 (by omega)) hg (fun j hj => wkT_eq (ko j hj) (qK _ (by have := sea_lt (N := N); omega)))
    unfold wfb
    rw [q.seq, e10, e9, s1, s2, wkT_at hss ei, wkT_at (N := K) hf ((ko i (Ne.symm hne)).trans hp), wkT_at hf kg, wkT_at hss hsl, q _ (by have := sea_lt (N := N); omega), qK _ (by have := sea_lt (N := N); omega), qK _ (by have := sea_lt (N := N); omega)]
    exact ring_ex h.bs
theorem mulB {a d : Int} (h1 : -45 ≤ a) (h2 : a ≤ 45) (h3 : -999 ≤ d) (h4 : d ≤ 999) : -44955 ≤ a * d ∧ a * d ≤ 44955 := by
  have h5 : (a * d).natAbs ≤ 45 * 999 := by
    rw [Int.natAbs_mul]
    exact Nat.mul_le_mul (by omega) (by omega)
  omega
theorem savB {f s : Nat} (hf : f < 60) (hs : s < 60) {d : Int32} (h3 : -999 ≤ d.toInt) (h4 : d.toInt ≤ 999) : -44955 ≤ ((sp_X6_walk (nI f) - sp_X6_walk (nI s)) * d).toInt ∧ ((sp_X6_walk (nI f) - sp_X6_walk (nI s)) * d).toInt ≤ 44955 := by
  have w1 := wk_lo f hf
  have w2 := wk_lo s hs
  have e : (sp_X6_walk (nI f) - sp_X6_walk (nI s)).toInt = (sp_X6_walk (nI f)).toInt - (sp_X6_walk (nI s)).toInt := sub_toInt (by omega) (by omega)
  have m := mulB (a := (sp_X6_walk (nI f) - sp_X6_walk (nI s)).toInt) (d := d.toInt) (by omega) (by omega) h3 h4
  rw [mul_toInt (by omega) (by omega)]
  exact m
/-- what can go, goes alike -/
theorem go_all (h : wf b N G) (hi : (i : Int) < (N 0).toInt) (hss : s < 60) (c : ¬ sp_X4_canGo N G (nI i) (nI s) = 0) : (sp_X4_goTo N G (nI i) (nI s)).1 = (sp_X6_goes N Z (nI i) (nI s)).1 ∧ (sp_X4_goTo N G (nI i) (nI s)).2.1 = (sp_X6_goes N Z (nI i) (nI s)).2 ∧ wf b (sp_X6_goes N Z (nI i) (nI s)).2 (sp_X4_goTo N G (nI i) (nI s)).2.2 ∧ -44955 ≤ (sp_X6_goes N Z (nI i) (nI s)).1.toInt ∧ (sp_X6_goes N Z (nI i) (nI s)).1.toInt ≤ 44955 := by
  obtain ⟨f, hf, hp⟩ := pgo_p h hi c
  have h20 := h.n20 hi
  have hd := (h.g hi).d (s := sea N) sea_lt
  rcases h.sl.2 s hss with hG | ⟨g, hg, hG, hsl⟩
  · rw [go4_free (Z := Z) h hi hss hf hp hG, go6_free h hi hss hG, sav_free h hi hss hp hG]
    exact ⟨rfl, rfl, wf_free h hi hss hf hp hG _, savB hf hss (by omega) (by omega)⟩
  · have hg20 := h.n20 hg
    have hd2 := (h.g hg).d (s := sea N) sea_lt
    have hne : g ≠ i := by
      intro e
      subst e
      have e2 := pgo (Z := Z) h hi hss
      rw [if_pos hsl] at e2
      exact c e2
    have e5 : (N (18 + 11 * i + sea N) - N (18 + 11 * g + sea N)).toInt = (N (18 + 11 * i + sea N)).toInt - (N (18 + 11 * g + sea N)).toInt := sub_toInt (by omega) (by omega)
    rw [go4_ex (Z := Z) h hi hss hf hp hg hG, go6_ex h hi hss hp hg hG, sav_ex h hi hss hp hg hG]
    exact ⟨rfl, rfl, wf_ex h hi hss hf hp hg hsl hne _, savB hf hss (by omega) (by omega)⟩
/-- the best so far: class and model -/
def brr (N G : Nat → Int32) (v1 v2 : Int32) (Z : Nat → Nat → Int32) : Prop := (v1 = -4 ∧ v2 = 0 ∧ Z 0 4 = 0) ∨ ∃ g s : Nat, (g : Int) < (N 0).toInt ∧ s < 60 ∧ v1 = nI (g * 60 + s) ∧ Z 0 2 = nI g ∧ Z 0 3 = nI s ∧ v2 = Z 0 4 ∧ 0 < v2 ∧ v2 = sp_X4_worthOfGoing N G (nI g) (nI s) ∧ ¬ sp_X4_canGo N G (nI g) (nI s) = 0
theorem br_in (h : wf b N G) (hi : (i : Int) < (N 0).toInt) {K4 : Int32 → Int32 → Int32 → Int32} {K6 : Int32 → (Nat → Nat → Int32) → Nat → Nat → Int32} (hK : ∀ v1 v2 Z, brr N G v1 v2 Z → ∃ v, brr N G (K4 v1 v2 (nI i + 1)) v (K6 (nI i + 1) Z)) : ∀ (k fuel s : Nat) (v1 v2 : Int32) (Z : Nat → Nat → Int32), s + k = 60 → k < fuel → brr N G v1 v2 Z → ∃ v, brr N G (lp18_X4_bestGoing N G (nI i) K4 fuel v1 v2 (nI s)) v (lp19_X6_finds N (nI i) K6 fuel (nI s) Z) := by
  intro k
  induction k with
  | zero =>
    intro fuel s v1 v2 Z hk hf hv
    cases fuel with
    | zero => exact absurd hf (by omega)
    | succ f =>
      have c : (60 : Int32) ≤ nI s := by rw [le_toInt, tI (by omega), i60]; omega
      rw [lp18_X4_bestGoing_s, lp19_X6_finds_s, if_pos c, if_pos c]
      exact hK v1 v2 Z hv
  | succ k ih =>
    intro fuel s v1 v2 Z hk hf hv
    cases fuel with
    | zero => exact absurd hf (by omega)
    | succ f =>
      have hss : s < 60 := by omega
      have h20 := h.n20 hi
      have c : ¬ (60 : Int32) ≤ nI s := by rw [le_toInt, tI (by omega), i60]; omega
      have e := pgo (Z := Z) h hi hss
      rw [lp18_X4_bestGoing_s, lp19_X6_finds_s, if_neg c, if_neg c, nI_1, o6 h20]
      by_cases c1 : N (22 + 11 * i) = nI s
      · rw [if_pos c1] at e
        rw [if_pos e, if_pos c1]
        exact ih f (s + 1) v1 v2 Z (by omega) (by omega) hv
      · rw [if_neg c1] at e
        rw [if_neg c1, e]
        by_cases c2 : sp_X6_canGo N Z (nI i) (nI s) = 0
        · rw [if_pos c2, if_pos c2]
          exact ih f (s + 1) v1 v2 Z (by omega) (by omega) hv
        · rw [if_neg c2, if_neg c2]
          have c4 : ¬ sp_X4_canGo N G (nI i) (nI s) = 0 := by rw [e]; exact c2
          obtain ⟨f0, hf0, hp⟩ := pgo_p h hi c4
          have ew := pwth (Z := Z) h hi hss hf0 hp
          have e4 : Z 0 4 = v2 := by
            rcases hv with ⟨_, q2, q3⟩ | ⟨_, _, _, _, _, _, _, q, _⟩
            · rw [q2, q3]
            · exact q.symm
          have nn : ¬ v2 < 0 := by
            rcases hv with ⟨_, q2, _⟩ | ⟨_, _, _, _, _, _, _, _, q, _⟩
            · rw [q2]; decide
            · rw [lt_toInt] at q ⊢; omega
          rw [ew, e4]
          by_cases c3 : sp_X6_goWorth N Z (nI i) (nI s) ≤ v2
          · rw [if_pos c3, if_pos c3]
            exact ih f (s + 1) v1 v2 Z (by omega) (by omega) hv
          · rw [if_neg c3, if_neg c3]
            dsimp only
            refine ih f (s + 1) _ _ _ (by omega) (by omega) (Or.inr ⟨i, s, hi, hss, ?_, ?_, ?_, ?_, ?_, ew.symm, c4⟩)
            · rw [show (60 : Int32) = nI 60 from rfl, pk_mul, nI_add]
            · rw [zq (Or.inr (by decide)), zq (Or.inr (by decide)), zqs]
            · rw [zq (Or.inr (by decide)), zqs]
            · rw [zqs]
              exact ew.symm.trans (pwth (Z := zu (zu Z 0 2 (nI i)) 0 3 (nI s)) h hi hss hf0 hp)
            · rw [le_toInt] at c3
              rw [lt_toInt] at nn ⊢
              rw [i0] at nn ⊢
              omega
theorem br_out (h : wf b N G) : ∀ (k fuel i : Nat) (v1 v2 : Int32) (Z : Nat → Nat → Int32), (N 0).toInt = (i : Int) + (k : Int) → k < fuel → brr N G v1 v2 Z → ∃ v, brr N G (lp7_X4_bestGoing N G fuel v1 v2 (nI i)) v (lp7_X6_finds N fuel (nI i) Z) := by
  intro k
  induction k with
  | zero =>
    intro fuel i v1 v2 Z hk hf hv
    cases fuel with
    | zero => exact absurd hf (by omega)
    | succ f => rw [lp7_X4_bestGoing_s, lp7_X6_finds_s, if_pos (cend h.sf hk), if_pos (cend h.sf hk)]; exact ⟨v2, hv⟩
  | succ k ih =>
    intro fuel i v1 v2 Z hk hf hv
    cases fuel with
    | zero => exact absurd hf (by omega)
    | succ f =>
      obtain ⟨c1, hi⟩ := cgo h.sf hk
      rw [lp7_X4_bestGoing_s, lp7_X6_finds_s, if_neg c1, if_neg c1]
      exact br_in h hi (fun a c Y q => by rw [nI_1]; exact ih f (i + 1) a c Y (by omega) (by omega) q) 60 61 0 v1 v2 Z rfl (by omega) hv
theorem br (h : wf b N G) : ∃ v, brr N G (sp_X4_bestGoing N G) v (sp_X6_finds N Z) := by
  have c := cst h.sf
  exact br_out h _ 21 0 _ _ _ c.1 c.2 (Or.inl ⟨rfl, rfl, zqs⟩)
theorem r_best (h : wf b N G) {x : Int32} : sp_X4_numberOfBest N G x = (sp_X6_best N Z x).1 := by
  unfold sp_X4_numberOfBest sp_X6_best
  by_cases hy : sp_X6_in x 0 2 = 0
  · rw [if_pos hy, is_in, if_pos hy]
  · rw [if_neg hy, is_in, if_neg hy]
    dsimp only
    obtain ⟨v, hv⟩ := br (Z := Z) h
    generalize sp_X4_bestGoing N G = v1 at *
    generalize sp_X6_finds N Z = Y at *
    rcases hv with ⟨q1, _, q3⟩ | ⟨g, s, hg, hs, q1, q2, q3, q4, q5, q6, _⟩
    · rw [q1, q3, if_neg (by decide), if_pos rfl]
    · have hg20 := h.n20 hg
      have c4 : ¬ Y 0 4 = 0 := by
        intro e
        rw [q4, e] at q5
        exact absurd q5 (by decide)
      have e1 : nI (g * 60 + s) / (60 : Int32) = nI g := by
        rw [show (60 : Int32) = nI 60 from rfl, pk_div (by omega) (by decide) (by decide)]
        congr 1; omega
      have e2 : nI (g * 60 + s) - nI g * (60 : Int32) = nI s := by
        rw [show (60 : Int32) = nI 60 from rfl, pk_mul, pk_sub (by omega)]
        congr 1; omega
      rw [q1, if_pos (nI_pos' (by omega)), if_neg c4, e1, e2]
      by_cases x0 : x = 0
      · rw [if_pos x0, if_pos x0]; exact q2.symm
      · by_cases x1 : x = (1 : Int32)
        · rw [if_neg x0, if_neg x0, if_pos x1, if_pos x1]; exact q3.symm
        · rw [if_neg x0, if_neg x0, if_neg x1, if_neg x1]; exact q6.symm.trans q4
end PB
