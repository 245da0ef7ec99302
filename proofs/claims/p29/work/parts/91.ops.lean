/-! PURE: what the law wants of goods, and the changes -/
/-- of a good: no units without a slot; its weight and its slot; units that came; picks -/
def xtg (B : Int) (N d : Nat → Int32) (g : Nat) : Prop :=
  (N (22 + 11 * g) = -1 → N (23 + 11 * g) = 0) ∧ (∀ s : Nat, s < 60 → N (22 + 11 * g) = nI s → N (16 + 11 * g) ≤ sp_X2_heaviestAt (nI s)) ∧ (N (23 + 11 * g)).toInt + (N (24 + 11 * g)).toInt + (N (26 + 11 * g)).toInt = (d g).toInt ∧ 0 ≤ (N (26 + 11 * g)).toInt ∧ (N (25 + 11 * g)).toInt ≤ (N (26 + 11 * g)).toInt ∧ (d g).toInt ≤ B
def xt (B : Int) (N d : Nat → Int32) : Prop := ∀ g : Nat, (g : Int) < (N 0).toInt → xtg B N d g
def smg (N M : Nat → Int32) (g : Nat) : Prop := M (16 + 11 * g) = N (16 + 11 * g) ∧ ∀ k, 22 + 11 * g ≤ k → k ≤ 26 + 11 * g → M k = N k
/-- nothing more is known -/
def tru : (Nat → Int32) → (Nat → Int32) → Int32 → Prop := fun _ _ _ => True
/-- what a change leaves: an error, or a row M as it should be -/
def opR (b B : Int) (N : Nat → Int32) (mv : Prop) (E : (Nat → Int32) → (Nat → Int32) → Int32 → Prop) (f : Int32 × ((Nat → Int32) × (Nat → Int32))) (d' : Nat → Int32) : Prop :=
  f.1 < 0 ∨ (¬ f.1 < 0 ∧ ∃ M, (∀ j, j ≠ 10 → f.2.1 j = M j) ∧ wf b M f.2.2 ∧ M 0 = N 0 ∧ xt B M d' ∧ (mv → sea M = sea N ∧ M 10 = N 10) ∧ (¬ mv → M 9 = N 9) ∧ E M f.2.2 f.1)
section XP
variable {N M G d d' : Nat → Int32} {Z : Nat → Nat → Int32} {b B B' : Int} {i s f g : Nat}
theorem smg.x (h : smg N M g) (hd : d' g = d g) (x : xtg B N d g) : xtg B M d' g := by
  unfold xtg at *
  rw [h.1, h.2 (22 + 11 * g) (by omega) (by omega), h.2 (23 + 11 * g) (by omega) (by omega), h.2 (24 + 11 * g) (by omega) (by omega), h.2 (25 + 11 * g) (by omega) (by omega), h.2 (26 + 11 * g) (by omega) (by omega), hd]
  exact x
theorem xt_1 (hx : xt B N d) (e0 : M 0 = N 0) (hs : ∀ g, g ≠ i → smg N M g) (hd : ∀ g, g ≠ i → d' g = d g) (hi : (i : Int) < (N 0).toInt → xtg B M d' i) : xt B M d' := by
  intro g hg
  rw [e0] at hg
  by_cases e : g = i
  · subst e; exact hi hg
  · exact (hs g e).x (hd g e) (hx g hg)
theorem xt_0 (hx : xt B N d) (e0 : M 0 = N 0) (hs : ∀ g, smg N M g) : xt B M d := by
  intro g hg
  rw [e0] at hg
  exact (hs g).x rfl (hx g hg)
theorem xt_cg (hs : sfN N) (q : ∀ j, j < 236 → j ≠ 10 → M j = N j) (hx : xt B N d) : xt B M d := by
  intro g hg
  have e0 := q 0 (by omega) (by omega)
  rw [e0] at hg
  have h20 : g < 20 := n20 hs hg
  have hh : smg N M g := ⟨q _ (by omega) (by omega), fun k h1 h2 => q k (by omega) (by omega)⟩
  exact hh.x rfl (hx g hg)
theorem xt.mono (hB : B ≤ B') (hx : xt B N d) : xt B' N d := by
  intro g hg
  obtain ⟨h1, h2, h3, h4, h5, h6⟩ := hx g hg
  exact ⟨h1, h2, h3, h4, h5, by omega⟩
theorem opR_of {f4 : Int32 × ((Nat → Int32) × (Nat → Int32))} {f6 : Int32 × ((Nat → Int32) × (Nat → Nat → Int32))} (st : stp b N Z f4 f6) (hs : sfN N) (k : ¬ f4.1 < 0 → f4.2.1 0 = N 0 ∧ xt B f4.2.1 d' ∧ f4.2.1 9 = N 9) : opR b B N False tru f4 d' := by
  rcases st.2 with ⟨c, -⟩ | ⟨c, q, w, -⟩
  · exact Or.inl c
  · obtain ⟨k0, kx, k9⟩ := k c
    refine Or.inr ⟨c, _, q, w, by rw [← q 0 (by decide)]; exact k0, ?_, fun h => h.elim, fun _ => by rw [← q 9 (by decide)]; exact k9, trivial⟩
    exact xt_cg (N := f4.2.1) (by unfold sfN at hs ⊢; have w0 := w.sf; unfold sfN at w0; rw [← q 0 (by decide), ← q 1 (by decide)] at w0; exact w0) (fun j _ h10 => (q j h10).symm) kx
theorem er1 {P : Prop} : ¬ (-1 : Int32) < 0 → P := fun c => absurd (by decide) c
theorem er2 {P : Prop} : ¬ (-2 : Int32) < 0 → P := fun c => absurd (by decide) c
theorem er3 {P : Prop} : ¬ (-3 : Int32) < 0 → P := fun c => absurd (by decide) c
theorem x_set (h : wf b N G) (hx : xt B N d) {x y : Int32} : opR b B N False tru (sp_X4_changeSetting N G x y) d := by
  refine opR_of (r_set (Z := fun _ _ => 0) h) h.sf ?_
  unfold sp_X4_changeSetting
  dsimp only
  by_cases h1 : sp_X5_isIn x (0 : Int32) (2 : Int32) = 0
  · rw [if_pos h1]; exact er1
  · rw [if_neg h1]
    obtain ⟨k, hk, rfl⟩ := vp_in_of (min3 (by rw [is_in] at h1; exact h1)) (by decide)
    rw [xI (show k < 1000 by omega)]
    by_cases h2 : sp_X5_isIn y (lstS k) (grtS k) = 0
    · rw [if_pos h2]; exact er1
    · rw [if_neg h2]
      exact fun _ => ⟨pk_un (by omega), xt_0 hx (pk_un (by omega)) (fun g => ⟨pk_un (by omega), fun j _ _ => pk_un (by omega)⟩), pk_un (by omega)⟩
theorem x_demand (h : wf b N G) (hx : xt B N d) {x y w : Int32} : opR b B N False tru (sp_X4_changeDemand N G x y w) d := by
  refine opR_of (r_demand (Z := fun _ _ => 0) h) h.sf ?_
  unfold sp_X4_changeDemand
  dsimp only
  by_cases hg : isg N x
  · rw [if_neg (fun q => (g4 h.sf).mp q hg)]
    by_cases hy : ∃ s : Nat, s < 4 ∧ y = nI s
    · rw [if_neg (fun q => q46.mp q hy)]
      by_cases hw : sp_X5_isIn w (0 : Int32) (999 : Int32) = 0
      · rw [if_pos hw]; exact er1
      · rw [if_neg hw]
        obtain ⟨i, hi, rfl⟩ := hg
        obtain ⟨s, hs, rfl⟩ := hy
        have h20 := h.n20 hi
        rw [dix h20 hs]
        exact fun _ => ⟨pk_un (by omega), xt_0 hx (pk_un (by omega)) (fun g => ⟨pk_un (by omega), fun j _ _ => pk_un (by omega)⟩), pk_un (by omega)⟩
    · rw [if_pos (q46.mpr hy)]; exact er1
  · rw [if_pos ((g4 h.sf).mpr hg)]; exact er1
theorem x_deliver (h : wf b N G) (hx : xt B N d) (hB : B ≤ 1000000) (hi : (i : Int) < (N 0).toInt) {y : Int32} (hy : 1 ≤ y.toInt ∧ y.toInt ≤ 5000) : opR b (B + 5000) N False tru (sp_X4_addToStore N G (nI i) y) (upd d i (d i + y)) ∧ (¬ (sp_X4_addToStore N G (nI i) y).1 < 0 → (sp_X4_addToStore N G (nI i) y).1 = N (24 + 11 * i) + y ∧ 0 < (sp_X4_addToStore N G (nI i) y).1) := by
  have h20 := h.n20 hi
  have p := h.g hi
  have p1 := p.st
  have p2 := p.u
  have p3 := p.c
  have e : (N (24 + 11 * i) + y).toInt = (N (24 + 11 * i)).toInt + y.toInt := add_toInt (by omega) (by omega)
  have hin : ¬ sp_X5_isIn y (1 : Int32) (5000 : Int32) = 0 := by
    rw [is_in, in_iff, show (1 : Int32).toInt = 1 from by decide, show (5000 : Int32).toInt = 5000 from by decide]; exact hy
  obtain ⟨x1, x2, x3, x4, x5, x6⟩ := hx i hi
  have e2 : (d i + y).toInt = (d i).toInt + y.toInt := add_toInt (by omega) (by omega)
  have eA : sp_X4_addToStore N G (nI i) y = if N (24 + 11 * i) + y ≤ (100000 : Int32) then (N (24 + 11 * i) + y, (upd N (24 + 11 * i) (N (24 + 11 * i) + y), G)) else (-3, (N, G)) := by
    unfold sp_X4_addToStore
    dsimp only
    rw [if_neg (fun q => (g4 h.sf).mp q ⟨i, hi, rfl⟩), if_neg hin, xI (show i < 1000 by omega), pk_us]
  refine ⟨opR_of (r_deliver (Z := fun _ _ => 0) h) h.sf ?_, ?_⟩
  · rw [eA]
    by_cases c : N (24 + 11 * i) + y ≤ (100000 : Int32)
    · rw [if_pos c]
      refine fun _ => ⟨pk_un (by omega), ?_, pk_un (by omega)⟩
      refine xt_1 (i := i) (d := d) (hx.mono (by omega)) (pk_un (by omega)) (fun g hg => ⟨pk_un (by omega), fun j _ _ => pk_un (by omega)⟩) (fun g hg => pk_un hg) (fun _ => ?_)
      unfold xtg
      dsimp only
      rw [pk_un (show 22 + 11 * i ≠ 24 + 11 * i by omega), pk_un (show 16 + 11 * i ≠ 24 + 11 * i by omega), pk_un (show 23 + 11 * i ≠ 24 + 11 * i by omega), pk_un (show 25 + 11 * i ≠ 24 + 11 * i by omega), pk_un (show 26 + 11 * i ≠ 24 + 11 * i by omega), pk_us, pk_us, e, e2]
      exact ⟨x1, x2, by omega, x4, x5, by omega⟩
    · rw [if_neg c]; exact er3
  · rw [eA]
    by_cases c : N (24 + 11 * i) + y ≤ (100000 : Int32)
    · rw [if_pos c]
      exact fun _ => ⟨rfl, by rw [lt_toInt, i0, e]; omega⟩
    · rw [if_neg c]; exact er3
theorem bears_le (h20 : i < 20) (c : ¬ sp_X4_bears N G (nI s) (nI i) = 0) : N (16 + 11 * i) ≤ sp_X2_heaviestAt (nI s) := by
  unfold sp_X4_bears at c
  rw [xI (show i < 1000 by omega)] at c
  by_cases e : sp_X2_heaviestAt (nI s) < N (16 + 11 * i)
  · rw [if_pos e] at c; exact absurd rfl c
  · exact nl e
theorem le_bears (h20 : i < 20) (c : N (16 + 11 * i) ≤ sp_X2_heaviestAt (nI s)) : ¬ sp_X4_bears N G (nI s) (nI i) = 0 := by
  unfold sp_X4_bears
  rw [xI (show i < 1000 by omega), if_neg (lt_le c)]
  decide
theorem x_place (h : wf b N G) (hx : xt B N d) {x y : Int32} : opR b B N False tru (sp_X4_putIntoSlot N G x y) d := by
  refine opR_of (r_place (Z := fun _ _ => 0) h) h.sf ?_
  unfold sp_X4_putIntoSlot sp_X4_standIn
  dsimp only
  by_cases hg : isg N x
  · rw [if_neg (fun q => (g4 h.sf).mp q hg)]
    by_cases hy : iss y
    · rw [if_neg (fun q => z2.mp q hy)]
      obtain ⟨i, hi, rfl⟩ := hg
      obtain ⟨s, hs, rfl⟩ := hy
      have h20 := h.n20 hi
      by_cases c1 : sp_X4_isPlaced N G (nI i) = 0
      · rw [if_pos c1]
        by_cases c2 : sp_X4_isGood N G (G (ix (nI s))) = 0
        · rw [if_pos c2]
          by_cases c3 : sp_X4_bears N G (nI s) (nI i) = 0
          · rw [if_pos c3]; exact er2
          · rw [if_neg c3, xI (show i < 1000 by omega)]
            obtain ⟨x1, x2, x3, x4, x5, x6⟩ := hx i hi
            refine fun _ => ⟨pk_un (by omega), ?_, pk_un (by omega)⟩
            refine xt_1 (i := i) hx (pk_un (by omega)) (fun g hg => ⟨pk_un (by omega), fun j _ _ => pk_un (by omega)⟩) (fun g hg => rfl) (fun _ => ?_)
            unfold xtg
            dsimp only
            rw [pk_us, pk_un (show 16 + 11 * i ≠ 22 + 11 * i by omega), pk_un (show 23 + 11 * i ≠ 22 + 11 * i by omega), pk_un (show 24 + 11 * i ≠ 22 + 11 * i by omega), pk_un (show 25 + 11 * i ≠ 22 + 11 * i by omega), pk_un (show 26 + 11 * i ≠ 22 + 11 * i by omega)]
            refine ⟨fun q => absurd q (nI_nm1 (by omega)), fun t ht q => ?_, x3, x4, x5, x6⟩
            rw [← nI_inj (by omega) (by omega) q]
            exact bears_le h20 c3
        · rw [if_neg c2]; exact er2
      · rw [if_neg c1]; exact er2
    · rw [if_pos (z2.mpr hy)]; exact er1
  · rw [if_pos ((g4 h.sf).mpr hg)]; exact er1
theorem x_take (h : wf b N G) (hx : xt B N d) {x : Int32} : opR b B N False tru (sp_X4_takeOutOfSlot N G x) d := by
  refine opR_of (r_take (Z := fun _ _ => 0) h) h.sf ?_
  unfold sp_X4_takeOutOfSlot
  dsimp only
  by_cases hg : isg N x
  · rw [if_neg (fun q => (g4 h.sf).mp q hg)]
    obtain ⟨i, hi, rfl⟩ := hg
    have h20 := h.n20 hi
    by_cases c1 : sp_X4_isPlaced N G (nI i) = 0
    · rw [if_pos c1]; exact er2
    · rw [if_neg c1, xI (show i < 1000 by omega)]
      obtain ⟨x1, x2, x3, x4, x5, x6⟩ := hx i hi
      have p1 := (h.g hi).st
      have p2 := (h.g hi).u
      have p3 := (h.g hi).c
      have e : (N (24 + 11 * i) + N (23 + 11 * i)).toInt = (N (24 + 11 * i)).toInt + (N (23 + 11 * i)).toInt := add_toInt (by omega) (by omega)
      refine fun _ => ⟨(pk_un (by omega)).trans ((pk_un (by omega)).trans (pk_un (by omega))), ?_, (pk_un (by omega)).trans ((pk_un (by omega)).trans (pk_un (by omega)))⟩
      refine xt_1 (i := i) hx ((pk_un (by omega)).trans ((pk_un (by omega)).trans (pk_un (by omega)))) (fun g hg => ⟨(pk_un (by omega)).trans ((pk_un (by omega)).trans (pk_un (by omega))), fun j _ _ => (pk_un (by omega)).trans ((pk_un (by omega)).trans (pk_un (by omega)))⟩) (fun g hg => rfl) (fun _ => ?_)
      have q22 : ∀ A : Nat → Int32, ∀ v : Int32, upd A (22 + 11 * i) v (22 + 11 * i) = v := fun A v => pk_us
      unfold xtg
      dsimp only
      rw [q22, pk_un (show 16 + 11 * i ≠ 22 + 11 * i by omega), pk_un (show 23 + 11 * i ≠ 22 + 11 * i by omega), pk_un (show 24 + 11 * i ≠ 22 + 11 * i by omega), pk_un (show 25 + 11 * i ≠ 22 + 11 * i by omega), pk_un (show 26 + 11 * i ≠ 22 + 11 * i by omega), pk_us, pk_un (show 16 + 11 * i ≠ 23 + 11 * i by omega), pk_un (show 24 + 11 * i ≠ 23 + 11 * i by omega), pk_un (show 25 + 11 * i ≠ 23 + 11 * i by omega), pk_un (show 26 + 11 * i ≠ 23 + 11 * i by omega), pk_us, pk_un (show 16 + 11 * i ≠ 24 + 11 * i by omega), pk_un (show 25 + 11 * i ≠ 24 + 11 * i by omega), pk_un (show 26 + 11 * i ≠ 24 + 11 * i by omega), e, i0]
      exact ⟨fun _ => rfl, fun t ht q => absurd q.symm (nI_nm1 (by omega)), by omega, x4, x5, x6⟩
  · rw [if_pos ((g4 h.sf).mpr hg)]; exact er1
/-- units brought: the row -/
theorem xt_bR (h : wf b N G) (hx : xt B N d) (hi : (i : Int) < (N 0).toInt) (hf : f < 60) (hp : N (22 + 11 * i) = nI f) {t w : Int32} : xt B (bR N i (sp_X6_room N Z (nI i)) t w) d := by
  have h20 := h.n20 hi
  have rb := room_b (Z := Z) h hi
  obtain ⟨x1, x2, x3, x4, x5, x6⟩ := hx i hi
  have p1 := (h.g hi).st
  have p2 := (h.g hi).u
  have p3 := (h.g hi).c
  generalize sp_X6_room N Z (nI i) = r at *
  have e1 : (N (24 + 11 * i) - r).toInt = (N (24 + 11 * i)).toInt - r.toInt := sub_toInt (by omega) (by omega)
  have e2 : (N (23 + 11 * i) + r).toInt = (N (23 + 11 * i)).toInt + r.toInt := add_toInt (by omega) (by omega)
  have q := fdq_bR (N := N) (i := i) (x := r) (t := t) (w := w)
  refine xt_1 (i := i) hx (q 0 (by omega)) (fun g hg => ⟨q _ (by omega), fun j _ _ => q _ (by omega)⟩) (fun g hg => rfl) (fun _ => ?_)
  unfold xtg
  have e26 : bR N i r t w (26 + 11 * i) = N (26 + 11 * i) := by
    unfold bR; rw [pk_un (by omega), pk_un (by omega), pk_un (by omega), pk_un (by omega)]
  rw [bR_22, bR_23, bR_24, bR_25, e26, q (16 + 11 * i) (by omega), e1, e2]
  refine ⟨fun q => absurd (hp.symm.trans q) (nI_nm1 (by omega)), x2, by omega, x4, x5, x6⟩
/-- units picked: the row -/
theorem xt_pE (hB : B ≤ 1000000) (h : wf b N G) (hx : xt B N d) (hi : (i : Int) < (N 0).toInt) (hf : f < 60) (hp : N (22 + 11 * i) = nI f) {x w : Int32} (hx1 : 1 ≤ x.toInt) (hx2 : x.toInt ≤ (N (23 + 11 * i)).toInt) : xt B (pE N i x w) d := by
  have h20 := h.n20 hi
  obtain ⟨x1, x2, x3, x4, x5, x6⟩ := hx i hi
  have p1 := (h.g hi).st
  have p2 := (h.g hi).u
  have p3 := (h.g hi).c
  have p4 := (h.g hi).k
  have e1 : (N (23 + 11 * i) - x).toInt = (N (23 + 11 * i)).toInt - x.toInt := sub_toInt (by omega) (by omega)
  have e2 : (N (26 + 11 * i) + x).toInt = (N (26 + 11 * i)).toInt + x.toInt := add_toInt (by omega) (by omega)
  have e3 : (N (25 + 11 * i) + 1).toInt = (N (25 + 11 * i)).toInt + 1 := by
    have := add_toInt (x := N (25 + 11 * i)) (y := 1) (by rw [show (1 : Int32).toInt = 1 from by decide]; omega) (by rw [show (1 : Int32).toInt = 1 from by decide]; omega)
    rw [show (1 : Int32).toInt = 1 from by decide] at this
    exact this
  have q := fdq_pE (N := N) (M := N) (i := i) (x := x) (w := w) fdq_rf
  refine xt_1 (i := i) hx (q 0 (by omega)) (fun g hg => ⟨q _ (by omega), fun j _ _ => q _ (by omega)⟩) (fun g hg => rfl) (fun _ => ?_)
  unfold xtg
  have e26 : pE N i x w (26 + 11 * i) = N (26 + 11 * i) + x := by
    unfold pE; rw [pk_un (by omega), pk_un (by omega), pk_us]
  rw [pE_23, pE_24, pE_25, e26, q (16 + 11 * i) (by omega), q (22 + 11 * i) (by omega), e1, e2, e3]
  exact ⟨fun q => absurd (hp.symm.trans q) (nI_nm1 (by omega)), x2, by omega, by omega, by omega, x6⟩
theorem x_refill (h : wf b N G) (hx : xt B N d) {x : Int32} : opR b B N False tru (sp_X4_refillSlot N G x) d := by
  refine opR_of (r_refill (Z := fun _ _ => 0) h) h.sf ?_
  unfold sp_X4_refillSlot
  dsimp only
  by_cases hg : isg N x
  · rw [if_neg (fun q => (g4 h.sf).mp q hg)]
    obtain ⟨i, hi, rfl⟩ := hg
    have h20 := h.n20 hi
    rcases (h.g hi).p with c1 | ⟨f, hf, hp⟩
    · rw [if_pos ((pplaced h20 (h.g hi).p).mpr c1)]; exact er2
    · have c1 : ¬ N (22 + 11 * i) = -1 := by rw [hp]; exact nI_nm1 (by omega)
      rw [if_neg (fun q => c1 ((pplaced h20 (h.g hi).p).mp q))]
      by_cases c2 : (1 : Int32) ≤ sp_X4_unitsToBring N G (nI i)
      · rw [if_pos c2, room_eq (Z := fun _ _ => 0) h20, bring_eq (Z := fun _ _ => 0) h20 h.t.2.1.1 hf hp, brings_eq h20]
        dsimp only
        have q := fdq_bR (N := N) (i := i) (x := sp_X6_room N (fun _ _ => 0) (nI i)) (t := trp N i (sp_X6_room N (fun _ _ => 0) (nI i))) (w := trp N i (sp_X6_room N (fun _ _ => 0) (nI i)) * (N 2 + sp_X6_walk (N (22 + 11 * i))))
        exact fun _ => ⟨q 0 (by omega), xt_bR h hx hi hf hp, q 9 (by omega)⟩
      · rw [if_neg c2]; exact er2
  · rw [if_pos ((g4 h.sf).mpr hg)]; exact er1
theorem x_pick (hb : b ≤ 100000) (hB : B ≤ 1000000) (h : wf b N G) (hx : xt B N d) {x y : Int32} : opR (b + 1) B N False tru (sp_X4_pickUnits N G x y) d := by
  refine opR_of (r_pick (Z := fun _ _ => 0) hb h) h.sf ?_
  by_cases hg : isg N x
  · obtain ⟨i, hi, rfl⟩ := hg
    have h20 := h.n20 hi
    by_cases hy : sp_X6_in y 1 200 = 0
    · rw [pick_unf h20, if_neg (fun q => (g4 h.sf).mp q ⟨i, hi, rfl⟩), if_pos hy]; exact er1
    · obtain ⟨k1, k2⟩ := pick_core (Z := fun _ _ => 0) hb h hi hy
      have qy := min_of hy
      rw [show (1 : Int32).toInt = 1 from by decide, show (200 : Int32).toInt = 200 from by decide] at qy
      by_cases c : sp_X6_canPick N (fun _ _ => 0) (nI i) y = 0
      · rw [k1 c]; exact er2
      · obtain ⟨k3, k4, k5⟩ := k2 c (fun _ _ => 0)
        rcases (h.g hi).p with c1 | ⟨f, hf, hp⟩
        · exact absurd (canPick_no h20 c1) c
        · have c1 : ¬ N (22 + 11 * i) = -1 := by rw [hp]; exact nI_nm1 (by omega)
          have p2 := (h.g hi).u
          have p3 := (h.g hi).c
          have rb := room_b (Z := fun _ _ => 0) h hi
          rw [k3]
          dsimp only
          intro _
          by_cases e : y ≤ N (23 + 11 * i)
          · rw [picks_lo h20 e]
            dsimp only
            have q := fdq_pE (N := N) (M := N) (i := i) (x := y) (w := sp_X6_walk (N (22 + 11 * i))) fdq_rf
            rw [le_toInt] at e
            exact ⟨q 0 (by omega), xt_pE hB h hx hi hf hp qy.1 e, q 9 (by omega)⟩
          · have c4 : N 4 = 1 := by
              refine Classical.byContradiction fun w => c ?_
              rw [canPick_0 h20 w c1, Int32.add_zero, if_pos (nle_lt e)]
            have e2 : y.toInt ≤ (N (23 + 11 * i)).toInt + (sp_X6_room N (fun _ _ => 0) (nI i)).toInt := by
              refine Classical.byContradiction fun w => c ?_
              rw [canPick_1 h20 c4 c1, if_pos (by rw [lt_toInt, add_toInt (by omega) (by omega)]; omega)]
            rw [picks_hi h20 e, brings_eq h20]
            dsimp only
            have q1 := fdq_bR (N := N) (i := i) (x := sp_X6_room N (fun _ _ => 0) (nI i)) (t := trp N i (sp_X6_room N (fun _ _ => 0) (nI i))) (w := trp N i (sp_X6_room N (fun _ _ => 0) (nI i)) * (N 2 + sp_X6_walk (N (22 + 11 * i))))
            have hw := wf_bR (Z := fun _ _ => 0) h hi (t := trp N i (sp_X6_room N (fun _ _ => 0) (nI i))) (w := trp N i (sp_X6_room N (fun _ _ => 0) (nI i)) * (N 2 + sp_X6_walk (N (22 + 11 * i))))
            have hb2 := xt_bR (Z := fun _ _ => 0) h hx hi hf hp (t := trp N i (sp_X6_room N (fun _ _ => 0) (nI i))) (w := trp N i (sp_X6_room N (fun _ _ => 0) (nI i)) * (N 2 + sp_X6_walk (N (22 + 11 * i))))
            have e22 := bR_22 (N := N) (i := i) (x := sp_X6_room N (fun _ _ => 0) (nI i)) (t := trp N i (sp_X6_room N (fun _ _ => 0) (nI i))) (w := trp N i (sp_X6_room N (fun _ _ => 0) (nI i)) * (N 2 + sp_X6_walk (N (22 + 11 * i))))
            have e23 := bR_23 (N := N) (i := i) (x := sp_X6_room N (fun _ _ => 0) (nI i)) (t := trp N i (sp_X6_room N (fun _ _ => 0) (nI i))) (w := trp N i (sp_X6_room N (fun _ _ => 0) (nI i)) * (N 2 + sp_X6_walk (N (22 + 11 * i))))
            have hr : (N (23 + 11 * i) + sp_X6_room N (fun _ _ => 0) (nI i)).toInt = (N (23 + 11 * i)).toInt + (sp_X6_room N (fun _ _ => 0) (nI i)).toInt := add_toInt (by omega) (by omega)
            generalize bR N i (sp_X6_room N (fun _ _ => 0) (nI i)) (trp N i (sp_X6_room N (fun _ _ => 0) (nI i))) (trp N i (sp_X6_room N (fun _ _ => 0) (nI i)) * (N 2 + sp_X6_walk (N (22 + 11 * i)))) = X at *
            have q := fdq_pE (N := N) (M := X) (i := i) (x := y) (w := sp_X6_walk (X (22 + 11 * i))) q1
            refine ⟨q 0 (by omega), xt_pE hB hw hb2 (by rw [q1 0 (by omega)]; exact hi) hf (e22.trans hp) qy.1 ?_, q 9 (by omega)⟩
            rw [e23, hr]
            exact e2
  · unfold sp_X4_pickUnits
    rw [if_pos ((g4 h.sf).mpr hg)]; exact er1
/-- what a week's end leaves -/
def ewr (N M : Nat → Int32) : Prop := M 0 = N 0 ∧ M 9 = N 9 ∧ ∀ g : Nat, g < 20 → M (16 + 11 * g) = N (16 + 11 * g) ∧ M (22 + 11 * g) = N (22 + 11 * g) ∧ M (23 + 11 * g) = N (23 + 11 * g) ∧ M (24 + 11 * g) = N (24 + 11 * g) ∧ M (26 + 11 * g) = N (26 + 11 * g) ∧ (M (25 + 11 * g) = 0 ∨ M (25 + 11 * g) = N (25 + 11 * g))
theorem ewr_l (hs : sfN N) {t : Nat} (ht : t < 4) : ∀ (fuel i : Nat) (M : Nat → Int32), i ≤ 20 → ewr N M → ewr N (lp20_X4_finishWeek G fuel (nI i) (nI t) M).2.1 := by
  intro fuel
  induction fuel with
  | zero => intro i M _ h; exact h
  | succ n ih =>
    intro i M hi h
    rw [lp20_X4_finishWeek_s]
    dsimp only
    by_cases c : M 0 ≤ nI i
    · rw [if_pos c]
      show ewr N (upd M 1 (M 1 + 1))
      refine ⟨(pk_un (by omega)).trans h.1, (pk_un (by omega)).trans h.2.1, fun g hg => ?_⟩
      obtain ⟨p1, p2, p3, p4, p5, p6⟩ := h.2.2 g hg
      rw [pk_un (by omega), pk_un (by omega), pk_un (by omega), pk_un (by omega), pk_un (by omega), pk_un (by omega)]
      exact ⟨p1, p2, p3, p4, p5, p6⟩
    · rw [if_neg c]
      have hi2 : i < 20 := by
        rw [h.1, le_toInt, tI (by omega)] at c
        have := hs.2.1; omega
      rw [dix hi2 ht, xI (show i < 1000 by omega), nI_1]
      refine ih (i + 1) _ (by omega) ⟨?_, ?_, fun g hg => ?_⟩
      · rw [pk_un (by omega), pk_un (by omega)]; exact h.1
      · rw [pk_un (by omega), pk_un (by omega)]; exact h.2.1
      · obtain ⟨p1, p2, p3, p4, p5, p6⟩ := h.2.2 g hg
        rw [pk_un (show 16 + 11 * g ≠ 25 + 11 * i by omega), pk_un (show 16 + 11 * g ≠ 18 + 11 * i + t by omega), pk_un (show 22 + 11 * g ≠ 25 + 11 * i by omega), pk_un (show 22 + 11 * g ≠ 18 + 11 * i + t by omega), pk_un (show 23 + 11 * g ≠ 25 + 11 * i by omega), pk_un (show 23 + 11 * g ≠ 18 + 11 * i + t by omega), pk_un (show 24 + 11 * g ≠ 25 + 11 * i by omega), pk_un (show 24 + 11 * g ≠ 18 + 11 * i + t by omega), pk_un (show 26 + 11 * g ≠ 25 + 11 * i by omega), pk_un (show 26 + 11 * g ≠ 18 + 11 * i + t by omega)]
        refine ⟨p1, p2, p3, p4, p5, ?_⟩
        by_cases e : g = i
        · subst e; exact Or.inl pk_us
        · rw [pk_un (show 25 + 11 * g ≠ 25 + 11 * i by omega), pk_un (show 25 + 11 * g ≠ 18 + 11 * i + t by omega)]; exact p6
theorem x_endWeek (hb : b ≤ 100000) (h : wf b N G) (hx : xt B N d) : opR b B N False tru (sp_X4_finishWeek N G) d := by
  refine opR_of (r_endWeek (Z := fun _ _ => 0) hb h) h.sf ?_
  unfold sp_X4_finishWeek
  by_cases c : N 1 < (1000 : Int32)
  · rw [if_pos c, psea4 h.sf]
    intro _
    have q := ewr_l (G := G) h.sf (sea_lt (N := N)) 21 0 N (by omega) ⟨rfl, rfl, fun g _ => ⟨rfl, rfl, rfl, rfl, rfl, Or.inr rfl⟩⟩
    have q : ewr N (lp20_X4_finishWeek G 21 (0 : Int32) (nI (sea N)) N).2.1 := q
    refine ⟨q.1, fun g hg => ?_, q.2.1⟩
    rw [q.1] at hg
    obtain ⟨p1, p2, p3, p4, p5, p6⟩ := q.2.2 g (h.n20 hg)
    obtain ⟨x1, x2, x3, x4, x5, x6⟩ := hx g hg
    unfold xtg
    rw [p1, p2, p3, p4, p5]
    refine ⟨x1, x2, x3, x4, ?_, x6⟩
    rcases p6 with e | e
    · rw [e, i0]; exact x4
    · rw [e]; exact x5
  · rw [if_neg c]; exact er3
/-- where a good or two go: the row -/
theorem go_x (h : wf b N G) (hx : xt B N d) (hi : (i : Int) < (N 0).toInt) (hss : s < 60) (c : ¬ sp_X4_canGo N G (nI i) (nI s) = 0) : (sp_X4_goTo N G (nI i) (nI s)).2.1 0 = N 0 ∧ (sp_X4_goTo N G (nI i) (nI s)).2.1 1 = N 1 ∧ (sp_X4_goTo N G (nI i) (nI s)).2.1 10 = N 10 ∧ (sp_X4_goTo N G (nI i) (nI s)).2.1 9 = N 9 + (sp_X4_goTo N G (nI i) (nI s)).1 ∧ xt B (sp_X4_goTo N G (nI i) (nI s)).2.1 d := by
  obtain ⟨f, hf, hp⟩ := pgo_p h hi c
  have h20 := h.n20 hi
  have hbear : N (16 + 11 * i) ≤ sp_X2_heaviestAt (nI s) := by
    refine bears_le (G := G) h20 (fun w => c ?_)
    unfold sp_X4_canGo
    rw [w]
    by_cases e1 : sp_X2_isSlot (N (22 + 11 * ix (nI i))) = 0
    · rw [if_pos e1]
    · rw [if_neg e1]
      by_cases e2 : N (22 + 11 * ix (nI i)) = nI s
      · rw [if_pos e2]
      · rw [if_neg e2, if_pos rfl]
  have g9 : ∀ w v : Int32, gA N w v 9 = N 9 + v := fun w v => by unfold gA; rw [pk_un (by omega), pk_us]
  have g0 : ∀ w v : Int32, gA N w v 0 = N 0 := fun w v => by unfold gA; rw [pk_un (by omega), pk_un (by omega), pk_un (by omega)]
  have g1 : ∀ w v : Int32, gA N w v 1 = N 1 := fun w v => by unfold gA; rw [pk_un (by omega), pk_un (by omega), pk_un (by omega)]
  have g10 : ∀ w v : Int32, gA N w v 10 = N 10 := fun w v => by unfold gA; rw [pk_un (by omega), pk_un (by omega), pk_un (by omega)]
  obtain ⟨x1, x2, x3, x4, x5, x6⟩ := hx i hi
  rcases h.sl.2 s hss with hG | ⟨g, hg, hG, hsl⟩
  · rw [go4_free (Z := fun _ _ => 0) h hi hss hf hp hG]
    dsimp only
    refine ⟨(pk_un (by omega)).trans (g0 _ _), (pk_un (by omega)).trans (g1 _ _), (pk_un (by omega)).trans (g10 _ _), (pk_un (by omega)).trans (g9 _ _), ?_⟩
    refine xt_1 (i := i) hx ((pk_un (by omega)).trans (g0 _ _)) (fun g hg => ⟨(pk_un (by omega)).trans (gA_s (by omega)), fun j _ _ => (pk_un (by omega)).trans (gA_s (by omega))⟩) (fun g hg => rfl) (fun _ => ?_)
    unfold xtg
    rw [pk_us, pk_un (show 16 + 11 * i ≠ 22 + 11 * i by omega), pk_un (show 23 + 11 * i ≠ 22 + 11 * i by omega), pk_un (show 24 + 11 * i ≠ 22 + 11 * i by omega), pk_un (show 25 + 11 * i ≠ 22 + 11 * i by omega), pk_un (show 26 + 11 * i ≠ 22 + 11 * i by omega), gA_s (by omega), gA_s (by omega), gA_s (by omega), gA_s (by omega), gA_s (by omega)]
    refine ⟨fun q => absurd q (nI_nm1 (by omega)), fun t ht q => ?_, x3, x4, x5, x6⟩
    rw [← nI_inj (by omega) (by omega) q]
    exact hbear
  · have hg20 := h.n20 hg
    have hne : g ≠ i := by
      intro e
      subst e
      have e2 := pgo (Z := fun _ _ => 0) h hi hss
      rw [if_pos hsl] at e2
      exact c e2
    have hbear2 : N (16 + 11 * g) ≤ sp_X2_heaviestAt (nI f) := by
      refine bears_le (G := G) hg20 (fun w => c ?_)
      unfold sp_X4_canGo
      rw [xI (show i < 1000 by omega), xI (show s < 1000 by omega), hG, hp, w]
      by_cases e1 : sp_X2_isSlot (nI f) = 0
      · rw [if_pos e1]
      · rw [if_neg e1]
        by_cases e2 : nI f = nI s
        · rw [if_pos e2]
        · rw [if_neg e2]
          by_cases e3 : sp_X4_bears N G (nI s) (nI i) = 0
          · rw [if_pos e3]
          · rw [if_neg e3]
            by_cases e4 : sp_X4_isGood N G (nI g) = 0
            · exact absurd e4 (fun q => (g4 h.sf).mp q ⟨g, hg, rfl⟩)
            · rw [if_neg e4, if_pos rfl]
    rw [go4_ex (Z := fun _ _ => 0) h hi hss hf hp hg hG]
    dsimp only
    refine ⟨(pk_un (by omega)).trans ((pk_un (by omega)).trans (g0 _ _)), (pk_un (by omega)).trans ((pk_un (by omega)).trans (g1 _ _)), (pk_un (by omega)).trans ((pk_un (by omega)).trans (g10 _ _)), (pk_un (by omega)).trans ((pk_un (by omega)).trans (g9 _ _)), ?_⟩
    obtain ⟨y1, y2, y3, y4, y5, y6⟩ := hx g hg
    have hx2 : xt B (upd (gA N (sp_X6_goWalk N (fun _ _ => 0) (nI i) (nI s)) (sp_X6_goSaves N (fun _ _ => 0) (nI i) (nI s))) (22 + 11 * g) (nI f)) d := by
      refine xt_1 (i := g) hx ((pk_un (by omega)).trans (g0 _ _)) (fun g hg => ⟨(pk_un (by omega)).trans (gA_s (by omega)), fun j _ _ => (pk_un (by omega)).trans (gA_s (by omega))⟩) (fun g hg => rfl) (fun _ => ?_)
      unfold xtg
      rw [pk_us, pk_un (show 16 + 11 * g ≠ 22 + 11 * g by omega), pk_un (show 23 + 11 * g ≠ 22 + 11 * g by omega), pk_un (show 24 + 11 * g ≠ 22 + 11 * g by omega), pk_un (show 25 + 11 * g ≠ 22 + 11 * g by omega), pk_un (show 26 + 11 * g ≠ 22 + 11 * g by omega), gA_s (by omega), gA_s (by omega), gA_s (by omega), gA_s (by omega), gA_s (by omega)]
      refine ⟨fun q => absurd q (nI_nm1 (by omega)), fun t ht q => ?_, y3, y4, y5, y6⟩
      rw [← nI_inj (by omega) (by omega) q]
      exact hbear2
    have hxi := hx2 i (by rw [pk_un (by omega), g0]; exact hi)
    have hX16 : upd (gA N (sp_X6_goWalk N (fun _ _ => 0) (nI i) (nI s)) (sp_X6_goSaves N (fun _ _ => 0) (nI i) (nI s))) (22 + 11 * g) (nI f) (16 + 11 * i) = N (16 + 11 * i) := (pk_un (by omega)).trans (gA_s (by omega))
    generalize upd (gA N (sp_X6_goWalk N (fun _ _ => 0) (nI i) (nI s)) (sp_X6_goSaves N (fun _ _ => 0) (nI i) (nI s))) (22 + 11 * g) (nI f) = X at *
    refine xt_1 (i := i) hx2 (pk_un (by omega)) (fun g hg => ⟨pk_un (by omega), fun j _ _ => pk_un (by omega)⟩) (fun g hg => rfl) (fun _ => ?_)
    obtain ⟨z1, z2, z3, z4, z5, z6⟩ := hxi
    unfold xtg
    rw [pk_us, pk_un (show 16 + 11 * i ≠ 22 + 11 * i by omega), pk_un (show 23 + 11 * i ≠ 22 + 11 * i by omega), pk_un (show 24 + 11 * i ≠ 22 + 11 * i by omega), pk_un (show 25 + 11 * i ≠ 22 + 11 * i by omega), pk_un (show 26 + 11 * i ≠ 22 + 11 * i by omega)]
    refine ⟨fun q => absurd q (nI_nm1 (by omega)), fun t ht q => ?_, z3, z4, z5, z6⟩
    rw [← nI_inj (by omega) (by omega) q, hX16]
    exact hbear
theorem sv_ring {a v : Int32} : (100000000 : Int32) + v - 100000000 = a + v - a := by grind
theorem x_move (h : wf b N G) (hx : xt B N d) {x y : Int32} : opR b B N True (fun M _ r => r - 100000000 = M 9 - N 9) (sp_X4_moveGood N G x y) d := by
  unfold sp_X4_moveGood
  dsimp only
  by_cases hg : isg N x
  · rw [if_neg (fun q => (g4 h.sf).mp q hg)]
    by_cases hx1 : iss y
    · rw [if_neg (fun q => z2.mp q hx1)]
      obtain ⟨i, hi, rfl⟩ := hg
      obtain ⟨s, hs, rfl⟩ := hx1
      by_cases c1 : sp_X4_isGood N G (G (ix (nI s))) = 0
      · rw [if_pos c1]
        by_cases c2 : sp_X4_canGo N G (nI i) (nI s) = 0
        · rw [if_pos c2]; exact Or.inl (by decide : (-2 : Int32) < 0)
        · rw [if_neg c2]
          obtain ⟨q1, q2, q3, q4, q5⟩ := go_all (Z := fun _ _ => 0) h hi hs c2
          obtain ⟨k0, k1, k10, k9, kx⟩ := go_x h hx hi hs c2
          refine Or.inr ⟨by dsimp only; rw [q1]; exact hi_ge q4 q5, _, fun _ _ => rfl, by dsimp only; rw [q2]; exact q3, k0, kx, fun _ => ⟨by unfold sea; rw [k1], k10⟩, fun w => absurd trivial w, ?_⟩
          dsimp only
          rw [k9]
          exact sv_ring
      · rw [if_neg c1]; exact Or.inl (by decide : (-2 : Int32) < 0)
    · rw [if_pos (z2.mpr hx1)]; exact Or.inl (by decide : (-1 : Int32) < 0)
  · rw [if_pos ((g4 h.sf).mpr hg)]; exact Or.inl (by decide : (-1 : Int32) < 0)
theorem x_exchange (h : wf b N G) (hx : xt B N d) {x y : Int32} : opR b B N True (fun M _ r => r - 100000000 = M 9 - N 9) (sp_X4_exchangeGoods N G x y) d := by
  unfold sp_X4_exchangeGoods
  dsimp only
  by_cases hg : isg N x
  · rw [if_neg (fun q => (g4 h.sf).mp q hg)]
    by_cases hy : isg N y
    · rw [if_neg (fun q => (g4 h.sf).mp q hy)]
      by_cases hxy : x = y
      · rw [if_pos hxy]; exact Or.inl (by decide : (-1 : Int32) < 0)
      · rw [if_neg hxy]
        obtain ⟨i, hi, rfl⟩ := hg
        obtain ⟨g, hg, rfl⟩ := hy
        have hg20 := h.n20 hg
        rcases (h.g hg).p with hp | ⟨s, hs, hp⟩
        · rw [if_pos ((pplaced hg20 (h.g hg).p).mpr hp)]; exact Or.inl (by decide : (-2 : Int32) < 0)
        · rw [if_neg (fun q => by rw [(pplaced hg20 (h.g hg).p).mp q] at hp; exact nI_nm1 (by omega) hp.symm), xI (show g < 1000 by omega), hp]
          by_cases c2 : sp_X4_canGo N G (nI i) (nI s) = 0
          · rw [if_pos c2]; exact Or.inl (by decide : (-2 : Int32) < 0)
          · rw [if_neg c2]
            obtain ⟨q1, q2, q3, q4, q5⟩ := go_all (Z := fun _ _ => 0) h hi hs c2
            obtain ⟨k0, k1, k10, k9, kx⟩ := go_x h hx hi hs c2
            refine Or.inr ⟨by dsimp only; rw [q1]; exact hi_ge q4 q5, _, fun _ _ => rfl, by dsimp only; rw [q2]; exact q3, k0, kx, fun _ => ⟨by unfold sea; rw [k1], k10⟩, fun w => absurd trivial w, ?_⟩
            dsimp only
            rw [k9]
            exact sv_ring
    · rw [if_pos ((g4 h.sf).mpr hy)]; exact Or.inl (by decide : (-1 : Int32) < 0)
  · rw [if_pos ((g4 h.sf).mpr hg)]; exact Or.inl (by decide : (-1 : Int32) < 0)
/-- the best, some times one after the other -/
theorem imp_l {x : Int32} {N0 : Nat → Int32} (hx1 : 1 ≤ x.toInt) (hx2 : x.toInt ≤ 10) : ∀ (n m : Nat) (N G : Nat → Int32), wf b N G → xt B N d → N 0 = N0 0 → N 1 = N0 1 → N 10 = N0 10 → (m : Int) ≤ x.toInt → x.toInt - (m : Int) < (n : Int) →
    ∃ (r : Int32) (N' G' : Nat → Int32), lp19_X4_doBest x n (nI m) (sp_X4_bestGoing N G) N G = (r, (N', G')) ∧ wf b N' G' ∧ xt B N' d ∧ N' 0 = N0 0 ∧ N' 1 = N0 1 ∧ N' 10 = N0 10 ∧ (r = x ∨ sp_X4_bestGoing N' G' = -4) := by
  intro n
  induction n with
  | zero => intro m N G _ _ _ _ _ h1 h2; exfalso; omega
  | succ n ih =>
    intro m N G h hx e0 e1 e10 h1 h2
    rw [lp19_X4_doBest_s]
    dsimp only
    by_cases c : x ≤ nI m
    · rw [if_pos c]
      rw [le_toInt, tI (by omega)] at c
      have em : nI m = x := Int32.toInt_inj.mp (by rw [tI (by omega)]; omega)
      rw [if_neg (nI_ne0 (by omega) (by omega))]
      exact ⟨_, _, _, rfl, h, hx, e0, e1, e10, Or.inl em⟩
    · rw [if_neg c]
      obtain ⟨v, hv⟩ := br (Z := fun _ _ => 0) h
      rcases hv with ⟨q1, _, q3⟩ | ⟨g, s, hg, hs, q1, q2, q3, q4, q5, q6, q7⟩
      · rw [if_pos (by rw [q1]; decide)]
        by_cases m0 : nI m = 0
        · rw [if_pos m0]; exact ⟨_, _, _, rfl, h, hx, e0, e1, e10, Or.inr q1⟩
        · rw [if_neg m0]; exact ⟨_, _, _, rfl, h, hx, e0, e1, e10, Or.inr q1⟩
      · have hg20 := h.n20 hg
        rw [q1, if_neg (nI_pos (by omega)), bd2 hg20 hs, bd1 hg20 hs, nI_1]
        obtain ⟨g1, g2, g3, _⟩ := go_all (Z := fun _ _ => 0) h hg hs q7
        obtain ⟨k0, k1, k10, k9, kx⟩ := go_x h hx hg hs q7
        rw [le_toInt, tI (by omega)] at c
        exact ih (m + 1) _ _ (by rw [g2]; exact g3) kx (k0.trans e0) (k1.trans e1) (k10.trans e10) (by omega) (by omega)
theorem x_improve (h : wf b N G) (hx : xt B N d) {x : Int32} : opR b B N True (fun M G' r => r = x ∨ sp_X4_numberOfBest M G' 0 = -4) (sp_X4_doBest N G x) d := by
  unfold sp_X4_doBest
  by_cases hy : sp_X5_isIn x 1 10 = 0
  · rw [if_pos hy]; exact Or.inl (by decide : (-1 : Int32) < 0)
  · rw [if_neg hy]
    rw [is_in] at hy
    have q := min_of hy
    rw [show (1 : Int32).toInt = 1 from by decide, show (10 : Int32).toInt = 10 from by decide] at q
    obtain ⟨r, N', G', e, w, wx, k0, k1, k10, kb⟩ := imp_l (x := x) (N0 := N) q.1 q.2 11 0 N G h hx rfl rfl rfl (by omega) (by omega)
    have e : lp19_X4_doBest x 11 (0 : Int32) (sp_X4_bestGoing N G) N G = (r, (N', G')) := e
    rw [e]
    by_cases c : r < 0
    · exact Or.inl c
    · refine Or.inr ⟨c, N', fun _ _ => rfl, w, k0, wx, fun _ => ⟨by unfold sea; rw [k1], k10⟩, fun w => absurd trivial w, ?_⟩
      rcases kb with kb | kb
      · exact Or.inl kb
      · refine Or.inr ?_
        dsimp only
        unfold sp_X4_numberOfBest
        rw [if_neg (by decide), if_neg (by rw [kb]; decide)]
end XP
