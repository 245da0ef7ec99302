/-! PURE: writes: moves, exchanges, settings, goods, the store -/
section PX
variable {N N' G G' : Nat → Int32} {Z : Nat → Nat → Int32} {b : Int} {i s g f : Nat}
theorem hi_ge {x : Int32} (h1 : -44955 ≤ x.toInt) (h2 : x.toInt ≤ 44955) : ¬ (100000000 : Int32) + x < 0 := by
  have e : (100000000 : Int32).toInt = 100000000 := by decide
  rw [lt_toInt, i0, add_toInt (by omega) (by omega), e]
  omega
theorem r_move (h : wf b N G) {x y : Int32} : stp b N Z (sp_X4_moveGood N G x y) (sp_X6_move N Z x y) := by
  unfold sp_X4_moveGood sp_X6_move
  dsimp only
  by_cases hg : isg N x
  · rw [if_neg (fun q => (g4 h.sf).mp q hg), if_neg (fun q => (g6 h.sf).mp q hg)]
    by_cases hx : iss y
    · rw [if_neg (fun q => z2.mp q hx), if_neg (fun q => z6.mp q hx)]
      obtain ⟨i, hi, rfl⟩ := hg
      obtain ⟨s, hs, rfl⟩ := hx
      have h20 := h.n20 hi
      have eg := ga (Z := Z) h.sf h.sl hs
      have e := pgo (Z := Z) h hi hs
      rw [xI (show s < 1000 by omega)]
      by_cases c : G s = -1
      · have c1 : ¬ N (22 + 11 * i) = nI s := fun q => nI_nm1 (by omega) ((h.sl.1 i s hi hs q).symm.trans c)
        have e2 : sp_X4_canGo N G (nI i) (nI s) = sp_X6_canMove N Z (nI i) (nI s) := by
          rw [if_neg c1] at e
          rw [e]
          unfold sp_X6_canGo
          rw [if_pos (eg.trans c)]
        rw [if_pos ((pfree h.sf h.sl hs).mpr c), ← e2]
        by_cases c2 : sp_X4_canGo N G (nI i) (nI s) = 0
        · rw [if_pos c2, if_pos c2]
          exact stp_no (by decide)
        · rw [if_neg c2, if_neg c2]
          obtain ⟨q1, q2, q3, q4, q5⟩ := go_all (Z := sp_X6_records N Z) h hi hs c2
          rw [q1, q2]
          exact stp_yes rfl (hi_ge q4 q5) (fun _ _ => rfl) q3
      · have e2 : sp_X6_canMove N Z (nI i) (nI s) = 0 := by
          unfold sp_X6_canMove
          rw [eg]
          by_cases c3 : sp_X6_of N Z (nI i) (6 : Int32) = -1
          · rw [if_pos c3]
          · rw [if_neg c3, if_neg c]
        rw [if_neg (fun q => c ((pfree h.sf h.sl hs).mp q)), if_pos e2]
        exact stp_no (by decide)
    · rw [if_pos (z2.mpr hx), if_pos (z6.mpr hx)]
      exact stp_no (by decide)
  · rw [if_pos ((g4 h.sf).mpr hg), if_pos ((g6 h.sf).mpr hg)]
    exact stp_no (by decide)
theorem r_exchange (h : wf b N G) {x y : Int32} : stp b N Z (sp_X4_exchangeGoods N G x y) (sp_X6_exchange N Z x y) := by
  unfold sp_X4_exchangeGoods sp_X6_exchange
  dsimp only
  by_cases hg : isg N x
  · rw [if_neg (fun q => (g4 h.sf).mp q hg), if_neg (fun q => (g6 h.sf).mp q hg)]
    by_cases hy : isg N y
    · rw [if_neg (fun q => (g4 h.sf).mp q hy), if_neg (fun q => (g6 h.sf).mp q hy)]
      by_cases hxy : x = y
      · rw [if_pos hxy, if_pos hxy]
        exact stp_no (by decide)
      · rw [if_neg hxy, if_neg hxy]
        obtain ⟨i, hi, rfl⟩ := hg
        obtain ⟨g, hg, rfl⟩ := hy
        have h20 := h.n20 hi
        have hg20 := h.n20 hg
        rcases (h.g hg).p with hp | ⟨s, hs, hp⟩
        · have e2 : sp_X6_canExchange N Z (nI i) (nI g) = 0 := by
            unfold sp_X6_canExchange
            rw [if_neg hxy, o6 hg20, hp]
            by_cases c3 : sp_X6_of N Z (nI i) (6 : Int32) = -1
            · rw [if_pos c3]
            · rw [if_neg c3, if_pos rfl]
          rw [if_pos ((pplaced hg20 (h.g hg).p).mpr hp), if_pos e2]
          exact stp_no (by decide)
        · have hG := h.sl.1 g s hg hs hp
          have hgn : ¬ nI g = (-1 : Int32) := nI_nm1 (by omega)
          have e := pgo (Z := Z) h hi hs
          have c1 : ¬ N (22 + 11 * i) = nI s := fun q => hxy ((h.sl.1 i s hi hs q).symm.trans hG)
          have e2 : sp_X4_canGo N G (nI i) (nI s) = sp_X6_canExchange N Z (nI i) (nI g) := by
            rw [if_neg c1] at e
            rw [e]
            unfold sp_X6_canGo
            rw [ga h.sf h.sl hs, hG, if_neg hgn]
          rw [if_neg (fun q => by rw [(pplaced hg20 (h.g hg).p).mp q] at hp; exact nI_nm1 (by omega) hp.symm), xI (show g < 1000 by omega), o6 hg20, hp, ← e2]
          by_cases c2 : sp_X4_canGo N G (nI i) (nI s) = 0
          · rw [if_pos c2, if_pos c2]
            exact stp_no (by decide)
          · rw [if_neg c2, if_neg c2]
            obtain ⟨q1, q2, q3, q4, q5⟩ := go_all (Z := sp_X6_records N Z) h hi hs c2
            rw [q1, q2]
            exact stp_yes rfl (hi_ge q4 q5) (fun _ _ => rfl) q3
    · rw [if_pos ((g4 h.sf).mpr hy), if_pos ((g6 h.sf).mpr hy)]
      exact stp_no (by decide)
  · rw [if_pos ((g4 h.sf).mpr hg), if_pos ((g6 h.sf).mpr hg)]
    exact stp_no (by decide)
/-- a row that differs in settings alone -/
theorem wf_set {k : Nat} (hk : 2 ≤ k) (hk2 : k < 5) {v : Int32} (h : wf b N G) (ht : wft (upd N k v)) : wf b (upd N k v) G := by
  have q : ∀ j, (j < 2 ∨ 5 ≤ j) → upd N k v j = N j := fun j hj => pk_un (by omega)
  generalize upd N k v = M at *
  have e0 := q 0 (by omega)
  refine ⟨?_, fun g hg => ?_, fun g hg hn => ?_, ht, ⟨fun g s hg hs hgs => ?_, fun s hs => ?_⟩, ?_⟩
  · have := h.sf; unfold sfN at this ⊢; rw [e0, q 1 (by omega)]; exact this
  · rw [e0] at hg
    have p := h.g hg
    refine wfg.mk ?_ ?_ ?_ ?_ ?_ ?_ ?_
    · rw [q _ (by omega)]; exact p.w
    · rw [q _ (by omega)]; exact p.c
    · intro s hs; rw [q _ (by omega)]; exact p.d hs
    · rw [q _ (by omega)]; exact p.p
    · rw [q _ (by omega), q _ (by omega)]; exact p.u
    · rw [q _ (by omega), q _ (by omega)]; exact p.st
    · rw [q _ (by omega)]; exact p.k
  · rw [e0] at hn
    obtain ⟨z1, z2, z3, z4, z5⟩ := h.z hg hn
    refine ⟨fun s hs => ?_, ?_, ?_, ?_, ?_⟩
    · rw [q _ (by omega)]; exact z1 s hs
    · rw [q _ (by omega)]; exact z2
    · rw [q _ (by omega)]; exact z3
    · rw [q _ (by omega)]; exact z4
    · rw [q _ (by omega)]; exact z5
  · rw [e0] at hg; rw [q _ (by omega)] at hgs; exact h.sl.1 g s hg hs hgs
  · rcases h.sl.2 s hs with p | ⟨g, hg, p1, p2⟩
    · exact Or.inl p
    · exact Or.inr ⟨g, by rw [e0]; exact hg, p1, by rw [q _ (by omega)]; exact p2⟩
  · have es : sea M = sea N := by unfold sea; rw [q 1 (by omega)]
    unfold wfb
    rw [es, q 10 (by omega), q 9 (by omega), wkS_0 (N := N) e0 (fun j => wkT_eq (q _ (by omega)) (q _ (by omega)))]
    exact h.bs
theorem r_set (h : wf b N G) {x y : Int32} : stp b N Z (sp_X4_changeSetting N G x y) (sp_X6_set N Z x y) := by
  unfold sp_X4_changeSetting sp_X6_set
  dsimp only
  by_cases hx : sp_X6_in x 0 2 = 0
  · rw [if_pos hx, is_in, if_pos hx]
    exact stp_no (by decide)
  · rw [if_neg hx, is_in, if_neg hx]
    obtain ⟨t2, t3, t4⟩ := h.t
    obtain ⟨k, hk, rfl⟩ := vp_in_of (min3 hx) (by decide)
    rcases (show k = 0 ∨ k = 1 ∨ k = 2 by omega) with rfl | rfl | rfl
    · rw [if_neg (by decide : ¬ nI 0 = (1 : Int32)), if_pos (by decide : nI 0 = (0 : Int32))]
      show stp b N Z (if sp_X6_in y 0 200 = 0 then ((-1 : Int32), (N, G)) else (N 2, (upd N 2 y, G))) (if sp_X6_in y 0 200 = 0 then ((-1 : Int32), (N, Z)) else (N 2, (upd N 2 y, sp_X6_records N Z)))
      by_cases hy : sp_X6_in y 0 200 = 0
      · rw [if_pos hy, if_pos hy]; exact stp_no (by decide)
      · rw [if_neg hy, if_neg hy]
        have q := min_of hy
        rw [i0, show (200 : Int32).toInt = 200 from by decide] at q
        exact stp_yes rfl (by rw [lt_toInt, i0]; omega) (fun _ _ => rfl) (wf_set (by omega) (by omega) h ⟨by rw [pk_us]; exact q, by rw [pk_un (by omega)]; exact t3, by rw [pk_un (by omega)]; exact t4⟩)
    · rw [if_pos (by decide : nI 1 = (1 : Int32)), if_neg (by decide : ¬ nI 1 = (0 : Int32)), if_pos (by decide : nI 1 = (1 : Int32))]
      show stp b N Z (if sp_X6_in y 1 500 = 0 then ((-1 : Int32), (N, G)) else (N 3, (upd N 3 y, G))) (if sp_X6_in y 1 500 = 0 then ((-1 : Int32), (N, Z)) else (N 3, (upd N 3 y, sp_X6_records N Z)))
      by_cases hy : sp_X6_in y 1 500 = 0
      · rw [if_pos hy, if_pos hy]; exact stp_no (by decide)
      · rw [if_neg hy, if_neg hy]
        have q := min_of hy
        rw [show (1 : Int32).toInt = 1 from by decide, show (500 : Int32).toInt = 500 from by decide] at q
        exact stp_yes rfl (by rw [lt_toInt, i0]; omega) (fun _ _ => rfl) (wf_set (by omega) (by omega) h ⟨by rw [pk_un (by omega)]; exact t2, by rw [pk_us]; exact q, by rw [pk_un (by omega)]; exact t4⟩)
    · rw [if_neg (by decide : ¬ nI 2 = (1 : Int32)), if_neg (by decide : ¬ nI 2 = (0 : Int32)), if_neg (by decide : ¬ nI 2 = (1 : Int32))]
      show stp b N Z (if sp_X6_in y 0 1 = 0 then ((-1 : Int32), (N, G)) else (N 4, (upd N 4 y, G))) (if sp_X6_in y 0 1 = 0 then ((-1 : Int32), (N, Z)) else (N 4, (upd N 4 y, sp_X6_records N Z)))
      by_cases hy : sp_X6_in y 0 1 = 0
      · rw [if_pos hy, if_pos hy]; exact stp_no (by decide)
      · rw [if_neg hy, if_neg hy]
        have q := min_of hy
        rw [i0, show (1 : Int32).toInt = 1 from by decide] at q
        exact stp_yes rfl (by rw [lt_toInt, i0]; omega) (fun _ _ => rfl) (wf_set (by omega) (by omega) h ⟨by rw [pk_un (by omega)]; exact t2, by rw [pk_un (by omega)]; exact t3, by rw [pk_us]; exact q⟩)
/-- what a good has in units and picks, and accounts, alone differ -/
def fdq (i : Nat) (N N' : Nat → Int32) : Prop := ∀ k, (k < 5 ∨ k = 9 ∨ k = 10 ∨ (16 ≤ k ∧ ¬ (23 + 11 * i ≤ k ∧ k ≤ 26 + 11 * i))) → N' k = N k
theorem fdq_rf : fdq i N N := fun _ _ => rfl
theorem fdq_u {k : Nat} {x : Int32} (hk : (5 ≤ k ∧ k < 9) ∨ (11 ≤ k ∧ k < 16) ∨ (23 + 11 * i ≤ k ∧ k ≤ 26 + 11 * i)) (h : fdq i N N') : fdq i N (upd N' k x) := by
  intro j hj
  rw [pk_un (by omega)]
  exact h j hj
theorem fdq.wf {b' : Int} (q : fdq i N N') (h : wf b N G) (hi : (i : Int) < (N 0).toInt) (hb : b ≤ b') (hu : 0 ≤ (N' (23 + 11 * i)).toInt ∧ (N' (23 + 11 * i)).toInt ≤ (N (17 + 11 * i)).toInt) (hst : 0 ≤ (N' (24 + 11 * i)).toInt ∧ (N' (24 + 11 * i)).toInt + (N' (23 + 11 * i)).toInt ≤ 100200) (hk : 0 ≤ (N' (25 + 11 * i)).toInt ∧ (N' (25 + 11 * i)).toInt ≤ b') : wf b' N' G := by
  have e0 := q 0 (by omega)
  refine ⟨?_, fun g hg => ?_, fun g hg hn => ?_, ?_, ⟨fun g s hg hs hgs => ?_, fun s hs => ?_⟩, ?_⟩
  · have := h.sf; unfold sfN at this ⊢; rw [e0, q 1 (by omega)]; exact this
  · rw [e0] at hg
    have p := h.g hg
    by_cases c : g = i
    · subst c
      refine wfg.mk ?_ ?_ ?_ ?_ ?_ hst hk
      · rw [q _ (by omega)]; exact p.w
      · rw [q _ (by omega)]; exact p.c
      · intro s hs; rw [q _ (by omega)]; exact p.d hs
      · rw [q _ (by omega)]; exact p.p
      · rw [q (17 + 11 * g) (by omega)]; exact hu
    · refine wfg.mk ?_ ?_ ?_ ?_ ?_ ?_ ?_
      · rw [q _ (by omega)]; exact p.w
      · rw [q _ (by omega)]; exact p.c
      · intro s hs; rw [q _ (by omega)]; exact p.d hs
      · rw [q _ (by omega)]; exact p.p
      · rw [q _ (by omega), q _ (by omega)]; exact p.u
      · rw [q _ (by omega), q _ (by omega)]; exact p.st
      · rw [q _ (by omega)]; exact ⟨p.k.1, by have := p.k.2; omega⟩
  · rw [e0] at hn
    have c : g ≠ i := by omega
    obtain ⟨z1, z2, z3, z4, z5⟩ := h.z hg hn
    refine ⟨fun s hs => ?_, ?_, ?_, ?_, ?_⟩
    · rw [q _ (by omega)]; exact z1 s hs
    · rw [q _ (by omega)]; exact z2
    · rw [q _ (by omega)]; exact z3
    · rw [q _ (by omega)]; exact z4
    · rw [q _ (by omega)]; exact z5
  · have := h.t; unfold wft at this ⊢; rw [q 2 (by omega), q 3 (by omega), q 4 (by omega)]; exact this
  · rw [e0] at hg; rw [q _ (by omega)] at hgs; exact h.sl.1 g s hg hs hgs
  · rcases h.sl.2 s hs with p | ⟨g, hg, p1, p2⟩
    · exact Or.inl p
    · exact Or.inr ⟨g, by rw [e0]; exact hg, p1, by rw [q _ (by omega)]; exact p2⟩
  · have es : sea N' = sea N := by unfold sea; rw [q 1 (by omega)]
    unfold wfb
    rw [es, q 10 (by omega), q 9 (by omega), wkS_0 (N := N) e0 (fun j => wkT_eq (q _ (by omega)) (q _ (by have := sea_lt (N := N); omega)))]
    exact h.bs
theorem r_deliver (h : wf b N G) {x y : Int32} : stp b N Z (sp_X4_addToStore N G x y) (sp_X6_deliver N Z x y) := by
  unfold sp_X4_addToStore sp_X6_deliver
  dsimp only
  by_cases hg : isg N x
  · rw [if_neg (fun q => (g4 h.sf).mp q hg), if_neg (fun q => (g6 h.sf).mp q hg)]
    by_cases hy : sp_X6_in y 1 5000 = 0
    · rw [if_pos hy, is_in, if_pos hy]
      exact stp_no (by decide)
    · rw [if_neg hy, is_in, if_neg hy]
      have q := min_of hy
      rw [show (1 : Int32).toInt = 1 from by decide, show (5000 : Int32).toInt = 5000 from by decide] at q
      obtain ⟨i, hi, rfl⟩ := hg
      have h20 := h.n20 hi
      have p := h.g hi
      have p1 := p.st
      have p2 := p.u
      have p3 := p.c
      have e : (N (24 + 11 * i) + y).toInt = (N (24 + 11 * i)).toInt + y.toInt := add_toInt (by omega) (by omega)
      rw [o8 h20, o8 h20, l8 h20, o8 h20, xI (show i < 1000 by omega)]
      by_cases c : N (24 + 11 * i) + y ≤ (100000 : Int32)
      · rw [if_pos c, if_pos c, pk_us]
        rw [le_toInt, e, show (100000 : Int32).toInt = 100000 from by decide] at c
        refine stp_yes rfl (by rw [lt_toInt, i0, e]; omega) (fun _ _ => rfl) ((fdq_u (Or.inr (Or.inr (by omega))) fdq_rf).wf h hi (Int.le_refl b) ?_ ?_ ?_)
        · rw [pk_un (by omega)]; exact p2
        · rw [pk_us, pk_un (by omega), e]; omega
        · rw [pk_un (by omega)]; exact p.k
      · rw [if_neg c, if_neg c]
        exact stp_no (by decide)
  · rw [if_pos ((g4 h.sf).mpr hg), if_pos ((g6 h.sf).mpr hg)]
    exact stp_no (by decide)
end PX
