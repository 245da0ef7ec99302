/-! PURE: nothing is written behind the row -/
section PH
variable {N G : Nat → Int32} {Z : Nat → Nat → Int32} {b : Int} {i s : Nat}
theorem go_hi (h : wf b N G) (hi : (i : Int) < (N 0).toInt) (hss : s < 60) (c : ¬ sp_X4_canGo N G (nI i) (nI s) = 0) {j : Nat} (hj : 236 ≤ j) : (sp_X6_goes N Z (nI i) (nI s)).2 j = N j := by
  obtain ⟨f, hf, hp⟩ := pgo_p h hi c
  have h20 := h.n20 hi
  rcases h.sl.2 s hss with hG | ⟨g, hg, hG, hsl⟩
  · rw [go6_free h hi hss hG]
    dsimp only
    rw [pk_un (by omega), gA_s (by omega)]
  · have hg20 := h.n20 hg
    rw [go6_ex h hi hss hp hg hG]
    dsimp only
    rw [pk_un (by omega), pk_un (by omega), gA_s (by omega)]
theorem bR_hi {x t w : Int32} (h20 : i < 20) {j : Nat} (hj : 236 ≤ j) : bR N i x t w j = N j := by
  unfold bR
  rw [pk_un (by omega), pk_un (by omega), pk_un (by omega), pk_un (by omega)]
theorem pE_hi {x w : Int32} (h20 : i < 20) {j : Nat} (hj : 236 ≤ j) : pE N i x w j = N j := by
  unfold pE
  rw [pk_un (by omega), pk_un (by omega), pk_un (by omega), pk_un (by omega), pk_un (by omega)]
theorem picks_hi' (h20 : i < 20) {x : Int32} {j : Nat} (hj : 236 ≤ j) : (sp_X6_picks N Z (nI i) x).2 j = N j := by
  by_cases c : x ≤ N (23 + 11 * i)
  · rw [picks_lo h20 c]
    dsimp only
    rw [pE_hi h20 hj]
  · rw [picks_hi h20 c, brings_eq h20]
    dsimp only
    rw [pE_hi h20 hj, bR_hi h20 hj]
theorem ends_hi (hb : b ≤ 100000) (h : wf b N G) {j : Nat} (hj : 236 ≤ j) : sp_X6_ends N Z j = N j := by
  have hsf := h.sf
  obtain ⟨n, hn, en⟩ := nI_ofI hsf.1
  have hn0 : (N 0).toInt = (n : Int) := by rw [en, nI_toInt hn]
  have hn20 : n ≤ 20 := by have := hsf.2.1; omega
  have c := cst hsf
  obtain ⟨M, q, qg, e4, e6⟩ := ew_l (G := G) hb (sea_lt (N := N)) hn0 hn20 _ 21 0 N c.1 c.2 (fun _ _ => rfl) (fun g hg => h.g hg)
  unfold sp_X6_ends
  rw [psea hsf]
  have e := e6 Z (sp_X6_weeklyOf N Z (nI (sea N)))
  have e2 : lp13_X6_ends Z 21 0 (sp_X6_weeklyOf N Z (nI (sea N))) (nI (sea N)) N = _ := e
  rw [e2, a5, pk_un (by omega), pk_un (by omega)]
  exact q j (by omega)
theorem does_hi (hb : b ≤ 100000) (h : wf b N G) (hk : kin (Z 0 6)) (ht : ¬ sp_X6_isThere N Z = 0) (hc : ¬ sp_X6_can N Z = 0) {j : Nat} (hj : 236 ≤ j) : sp_X6_does N Z j = N j := by
  rcases hk with k | k | k | k | k
  · rw [doe_119 k]
    exact ends_hi hb h hj
  · obtain ⟨i, hi, ex⟩ := th_x h ht (by rw [k]; decide)
    rw [doe_114 k, ex, brings_eq (h.n20 hi)]
    exact bR_hi (h.n20 hi) hj
  · obtain ⟨i, hi, ex⟩ := th_x h ht (by rw [k]; decide)
    rw [doe_112 k, ex]
    exact picks_hi' (h.n20 hi) hj
  · obtain ⟨i, hi, ex⟩ := th_x h ht (by rw [k]; decide)
    obtain ⟨s, hs, ey⟩ := th_s h ht k
    have h20 := h.n20 hi
    rw [can_109 k, ex, ey] at hc
    have e := pgo (Z := Z) h hi hs
    have eg := ga (Z := Z) h.sf h.sl hs
    have cG : G s = -1 := by
      refine Classical.byContradiction fun w => hc ?_
      unfold sp_X6_canMove
      rw [eg]
      by_cases c3 : sp_X6_of N Z (nI i) (6 : Int32) = -1
      · rw [if_pos c3]
      · rw [if_neg c3, if_neg w]
    have c1 : ¬ N (22 + 11 * i) = nI s := fun q => nI_nm1 (by omega) ((h.sl.1 i s hi hs q).symm.trans cG)
    rw [doe_109 k, ex, ey]
    refine go_hi h hi hs (fun w => hc ?_) hj
    rw [if_neg c1] at e
    rw [e] at w
    unfold sp_X6_canGo at w
    rw [if_pos (eg.trans cG)] at w
    exact w
  · obtain ⟨i, hi, ex⟩ := th_x h ht (by rw [k]; decide)
    obtain ⟨g, hg, ey⟩ := th_y h ht k
    rw [can_120 k, ex, ey] at hc
    have hg20 := h.n20 hg
    have h20 := h.n20 hi
    have hxy : ¬ nI i = nI g := by
      intro w
      refine hc ?_
      unfold sp_X6_canExchange
      rw [if_pos w]
    rcases (h.g hg).p with hp | ⟨s, hs, hp⟩
    · refine absurd ?_ hc
      unfold sp_X6_canExchange
      rw [if_neg hxy, o6 hg20, hp]
      by_cases c3 : sp_X6_of N Z (nI i) (6 : Int32) = -1
      · rw [if_pos c3]
      · rw [if_neg c3, if_pos rfl]
    · have hG := h.sl.1 g s hg hs hp
      have hgn : ¬ nI g = (-1 : Int32) := nI_nm1 (by omega)
      have e := pgo (Z := Z) h hi hs
      have c1 : ¬ N (22 + 11 * i) = nI s := fun q => hxy ((h.sl.1 i s hi hs q).symm.trans hG)
      rw [doe_120 k, ex, ey, o6 hg20, hp]
      refine go_hi h hi hs (fun w => hc ?_) hj
      rw [if_neg c1] at e
      rw [e] at w
      unfold sp_X6_canGo at w
      rw [ga h.sf h.sl hs, hG, if_neg hgn] at w
      exact w
end PH
