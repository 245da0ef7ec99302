/-! PURE: writes: refills, picks -/
section PK
variable {N N' G G' : Nat → Int32} {Z : Nat → Nat → Int32} {b : Int} {i s g f : Nat}
theorem upd_id {k : Nat} : upd N k (N k) = N := by
  funext j
  unfold upd
  by_cases h : j = k
  · rw [if_pos h, h]
  · rw [if_neg h]
theorem room_eq (h20 : i < 20) : sp_X4_unitsToBring N G (nI i) = sp_X6_room N Z (nI i) := by
  unfold sp_X4_unitsToBring sp_X6_room
  rw [o8 h20, o1 h20, o7 h20, xI (show i < 1000 by omega)]
  generalize N (24 + 11 * i) = x
  generalize N (17 + 11 * i) - N (23 + 11 * i) = y
  by_cases c : x < y
  · have c2 : x ≤ y := by rw [lt_toInt] at c; rw [le_toInt]; omega
    rw [if_pos c, if_pos c2]
  · by_cases c2 : x ≤ y
    · rw [if_neg c, if_pos c2]
      rw [lt_toInt] at c
      rw [le_toInt] at c2
      exact Int32.toInt_inj.mp (by omega)
    · rw [if_neg c, if_neg c2]
theorem room_b (h : wf b N G) (hi : (i : Int) < (N 0).toInt) : 0 ≤ (sp_X6_room N Z (nI i)).toInt ∧ (sp_X6_room N Z (nI i)).toInt ≤ 200 ∧ (sp_X6_room N Z (nI i)).toInt ≤ (N (24 + 11 * i)).toInt ∧ (N (23 + 11 * i)).toInt + (sp_X6_room N Z (nI i)).toInt ≤ (N (17 + 11 * i)).toInt := by
  have h20 := h.n20 hi
  have p := h.g hi
  have p1 := p.st
  have p2 := p.u
  have p3 := p.c
  have e : (N (17 + 11 * i) - N (23 + 11 * i)).toInt = (N (17 + 11 * i)).toInt - (N (23 + 11 * i)).toInt := sub_toInt (by omega) (by omega)
  unfold sp_X6_room
  rw [o8 h20, o1 h20, o7 h20]
  by_cases c : N (24 + 11 * i) ≤ N (17 + 11 * i) - N (23 + 11 * i)
  · rw [if_pos c]
    rw [le_toInt, e] at c
    omega
  · rw [if_neg c, e]
    rw [le_toInt, e] at c
    omega
/-- the row behind a refill of x units in t trips -/
def bR (N : Nat → Int32) (i : Nat) (x t w : Int32) : Nat → Int32 := upd (upd (upd (upd N (24 + 11 * i) (N (24 + 11 * i) - x)) (23 + 11 * i) (N (23 + 11 * i) + x)) 8 (N 8 + t)) 6 (N 6 + w)
def trp (N : Nat → Int32) (i : Nat) (x : Int32) : Int32 := ((x * N (16 + 11 * i) + N 3) - (1 : Int32)) / N 3
theorem brings_eq (h20 : i < 20) {x : Int32} : sp_X6_brings N Z (nI i) x = (trp N i x * (N 2 + sp_X6_walk (N (22 + 11 * i))), bR N i x (trp N i x) (trp N i x * (N 2 + sp_X6_walk (N (22 + 11 * i))))) := by
  unfold sp_X6_brings bR trp
  dsimp only
  rw [o8 h20, l8 h20, o7 h20, l7 h20, o0 h20, o6 h20, a3, a1]
  simp (disch := omega) only [pk_un]
theorem bring_eq (h20 : i < 20) (hld : 1 ≤ (N 3).toInt) (hf : f < 60) (hp : N (22 + 11 * i) = nI f) {x : Int32} : sp_X4_bring N G (nI i) x = ((sp_X6_brings N Z (nI i) x).1, ((sp_X6_brings N Z (nI i) x).2, G)) := by
  rw [brings_eq h20]
  unfold sp_X4_bring sp_X4_tripsFor bR trp
  dsimp only
  have e1 : ix (1 : Int32) = 1 := rfl
  have e0 : ix (0 : Int32) = 0 := rfl
  have c : (1 : Int32) ≤ N 3 := by rw [le_toInt, show (1 : Int32).toInt = 1 from by decide]; exact hld
  rw [xI (show i < 1000 by omega), e1, e0, show 2 + 1 = 3 from rfl, show 2 + 0 = 2 from rfl, if_pos c, hp, wkT' f hf]
  simp (disch := omega) only [pk_un]
theorem trp_n {r k l : Nat} (hr : r ≤ 200) (hk : k ≤ 40) (hl : 1 ≤ l) (hl2 : l ≤ 500) : ((nI r * nI k + nI l) - (1 : Int32)) / nI l = nI ((r * k + l - 1) / l) ∧ (r * k + l - 1) / l ≤ 8499 := by
  have m : r * k ≤ 200 * 40 := Nat.mul_le_mul hr hk
  obtain ⟨q, hq⟩ : ∃ q, r * k + l = q + 1 := ⟨r * k + l - 1, by omega⟩
  have q2 : r * k + l - 1 = q := by omega
  rw [q2]
  refine ⟨?_, Nat.le_trans (Nat.div_le_self _ _) (by omega)⟩
  rw [pk_mul, nI_add, hq, nI_pred, pk_div (by omega) (by omega) (by omega)]
theorem nat_of {x : Int32} {n : Nat} (h1 : 0 ≤ x.toInt) (h2 : x.toInt ≤ (n : Int)) : ∃ k : Nat, k ≤ n ∧ x = nI k := by
  obtain ⟨k, hk, e⟩ := nI_ofI h1
  rw [e, nI_toInt hk] at h2
  exact ⟨k, by omega, e⟩
/-- what a refill walks -/
theorem walked (h : wf b N G) (hi : (i : Int) < (N 0).toInt) (hf : f < 60) {x : Int32} (hx : 0 ≤ x.toInt) (hx2 : x.toInt ≤ 200) : ∃ t q p : Nat, t ≤ 8499 ∧ q ≤ 49 ∧ p ≤ 249 ∧ trp N i x = nI t ∧ sp_X6_walk (nI f) = nI q ∧ N 2 + sp_X6_walk (nI f) = nI p ∧ trp N i x * (N 2 + sp_X6_walk (nI f)) + sp_X6_walk (nI f) = nI (t * p + q) := by
  obtain ⟨t2, t3, t4⟩ := h.t
  have w := (h.g hi).w
  have ww := wk_lo f hf
  obtain ⟨r, hr, er⟩ := nat_of (n := 200) hx hx2
  obtain ⟨k, hk, ek⟩ := nat_of (n := 40) (x := N (16 + 11 * i)) (by omega) (by omega)
  obtain ⟨l, hl, el⟩ := nat_of (n := 500) (x := N 3) (by omega) (by omega)
  obtain ⟨a, ha, ea⟩ := nat_of (n := 200) (x := N 2) (by omega) (by omega)
  obtain ⟨q, hq, eq⟩ := nat_of (n := 49) (x := sp_X6_walk (nI f)) (by omega) (by omega)
  have l1 : 1 ≤ l := by
    have := t3.1
    rw [el, tI (by omega)] at this
    omega
  obtain ⟨e1, e2⟩ := trp_n hr hk l1 hl
  have e3 : trp N i x = nI ((r * k + l - 1) / l) := by
    unfold trp
    rw [er, ek, el]
    exact e1
  refine ⟨(r * k + l - 1) / l, q, a + q, e2, hq, by omega, e3, eq, by rw [ea, eq, nI_add], ?_⟩
  rw [e3, ea, eq, nI_add, pk_mul, nI_add]
theorem trp0 (h : wf b N G) : trp N i 0 = 0 := by
  obtain ⟨t2, t3, t4⟩ := h.t
  obtain ⟨l, hl, el⟩ := nat_of (n := 500) (x := N 3) (by omega) (by omega)
  have l1 : 1 ≤ l := by
    have := t3.1
    rw [el, tI (by omega)] at this
    omega
  unfold trp
  rw [Int32.zero_mul, Int32.zero_add, el]
  obtain ⟨q, hq⟩ : ∃ q, l = q + 1 := ⟨l - 1, by omega⟩
  subst hq
  rw [nI_pred, pk_div (by omega) (by omega) (by omega), Nat.div_eq_of_lt (by omega)]
  rfl
theorem bring0 (h : wf b N G) (hi : (i : Int) < (N 0).toInt) (hf : f < 60) (hp : N (22 + 11 * i) = nI f) : sp_X4_bring N G (nI i) 0 = (0, (N, G)) := by
  have h20 := h.n20 hi
  rw [bring_eq (Z := fun _ _ => 0) h20 h.t.2.1.1 hf hp, brings_eq h20, trp0 h]
  unfold bR
  dsimp only
  rw [Int32.zero_mul, Int32.add_zero, Int32.add_zero, Int32.add_zero, Int32.sub_zero, upd_id]
  have a1 : upd N (23 + 11 * i) (N (23 + 11 * i)) = N := upd_id
  have a2 : upd N 8 (N 8) = N := upd_id
  have a3 : upd N 6 (N 6) = N := upd_id
  rw [a1, a2, a3]
theorem fdq_bR {x t w : Int32} : fdq i N (bR N i x t w) := fdq_u (Or.inl (by omega)) (fdq_u (Or.inl (by omega)) (fdq_u (Or.inr (Or.inr (by omega))) (fdq_u (Or.inr (Or.inr (by omega))) fdq_rf)))
theorem bR_23 {x t w : Int32} : bR N i x t w (23 + 11 * i) = N (23 + 11 * i) + x := by
  unfold bR
  simp (disch := omega) only [pk_un, pk_us]
theorem bR_24 {x t w : Int32} : bR N i x t w (24 + 11 * i) = N (24 + 11 * i) - x := by
  unfold bR
  simp (disch := omega) only [pk_un, pk_us]
theorem bR_25 {x t w : Int32} : bR N i x t w (25 + 11 * i) = N (25 + 11 * i) := by
  unfold bR
  simp (disch := omega) only [pk_un, pk_us]
theorem bR_22 {x t w : Int32} : bR N i x t w (22 + 11 * i) = N (22 + 11 * i) := by
  unfold bR
  simp (disch := omega) only [pk_un, pk_us]
theorem sub_back {u r : Int32} : u + r - u = r := by
  rw [Int32.add_comm, Int32.sub_eq_add_neg, Int32.add_assoc, Int32.add_right_neg, Int32.add_zero]
theorem wf_bR (h : wf b N G) (hi : (i : Int) < (N 0).toInt) {t w : Int32} : wf b (bR N i (sp_X6_room N Z (nI i)) t w) G := by
  have p := h.g hi
  have p1 := p.st
  have p2 := p.u
  have p3 := p.c
  have r := room_b (Z := Z) h hi
  refine fdq_bR.wf h hi (Int.le_refl b) ?_ ?_ ?_
  · rw [bR_23, add_toInt (by omega) (by omega)]; omega
  · rw [bR_23, bR_24, add_toInt (by omega) (by omega), sub_toInt (by omega) (by omega)]; omega
  · rw [bR_25]; exact p.k
theorem r_refill (h : wf b N G) {x : Int32} : stp b N Z (sp_X4_refillSlot N G x) (sp_X6_refill N Z x) := by
  unfold sp_X4_refillSlot sp_X6_refill sp_X6_canRefill
  dsimp only
  by_cases hg : isg N x
  · rw [if_neg (fun q => (g4 h.sf).mp q hg), if_neg (fun q => (g6 h.sf).mp q hg)]
    obtain ⟨i, hi, rfl⟩ := hg
    have h20 := h.n20 hi
    rw [o6 h20]
    rcases (h.g hi).p with c1 | ⟨f, hf, hp⟩
    · rw [if_pos ((pplaced h20 (h.g hi).p).mpr c1), if_pos c1, if_pos rfl]
      exact stp_no (by decide)
    · have c1 : ¬ N (22 + 11 * i) = -1 := by rw [hp]; exact nI_nm1 (by omega)
      have er := room_eq (N := N) (G := G) (Z := Z) h20
      have er2 := room_eq (N := N) (G := G) (Z := sp_X6_records N Z) h20
      have rb := room_b (Z := Z) h hi
      rw [if_neg (fun q => c1 ((pplaced h20 (h.g hi).p).mp q)), if_neg c1, ← er2, er]
      by_cases c2 : (1 : Int32) ≤ sp_X6_room N Z (nI i)
      · have c3 : ¬ sp_X6_room N Z (nI i) ≤ 0 := by
          rw [le_toInt, show (1 : Int32).toInt = 1 from by decide] at c2
          rw [le_toInt, i0]
          omega
        rw [if_pos c2, if_neg c3, if_neg (by decide : ¬ (1 : Int32) = 0), bring_eq (Z := sp_X6_records N Z) h20 h.t.2.1.1 hf hp, brings_eq h20, o7 h20, o7 h20]
        dsimp only
        rw [bR_23, sub_back]
        exact stp_yes rfl (by rw [lt_toInt, i0]; omega) (fun _ _ => rfl) (wf_bR h hi)
      · have c3 : sp_X6_room N Z (nI i) ≤ 0 := by
          rw [le_toInt, show (1 : Int32).toInt = 1 from by decide] at c2
          rw [le_toInt, i0]
          omega
        rw [if_neg c2, if_pos c3, if_pos rfl]
        exact stp_no (by decide)
  · rw [if_pos ((g4 h.sf).mpr hg), if_pos ((g6 h.sf).mpr hg)]
    exact stp_no (by decide)
/-- the row behind a pick of x units -/
def pE (N : Nat → Int32) (i : Nat) (x w : Int32) : Nat → Int32 := upd (upd (upd (upd (upd N (23 + 11 * i) (N (23 + 11 * i) - x)) (25 + 11 * i) (N (25 + 11 * i) + 1)) (26 + 11 * i) (N (26 + 11 * i) + x)) 5 (N 5 + w)) 12 (N 12 + 1)
theorem pE_c {x w : Int32} : upd (upd (upd (upd (upd N (23 + 11 * i) (N (23 + 11 * i) - x)) (26 + 11 * i) (N (26 + 11 * i) + x)) (25 + 11 * i) (N (25 + 11 * i) + 1)) 12 (N 12 + 1)) 5 (N 5 + w) = pE N i x w := by
  unfold pE
  rw [upd_comm (j := 26 + 11 * i) (k := 25 + 11 * i) (by omega), upd_comm (j := 12) (k := 5) (by omega)]
theorem picks_lo (h20 : i < 20) {x : Int32} (c : x ≤ N (23 + 11 * i)) : sp_X6_picks N Z (nI i) x = (0 + sp_X6_walk (N (22 + 11 * i)), pE N i x (sp_X6_walk (N (22 + 11 * i)))) := by
  unfold sp_X6_picks pE
  dsimp only
  rw [o7 h20, if_pos c, l7 h20, o9 h20, l9 h20, o10 h20, l10 h20, o6 h20, a0, a7]
  simp (disch := omega) only [pk_un]
theorem picks_hi (h20 : i < 20) {x : Int32} (c : ¬ x ≤ N (23 + 11 * i)) : sp_X6_picks N Z (nI i) x = ((sp_X6_brings N Z (nI i) (sp_X6_room N Z (nI i))).1 + sp_X6_walk ((sp_X6_brings N Z (nI i) (sp_X6_room N Z (nI i))).2 (22 + 11 * i)), pE (sp_X6_brings N Z (nI i) (sp_X6_room N Z (nI i))).2 i x (sp_X6_walk ((sp_X6_brings N Z (nI i) (sp_X6_room N Z (nI i))).2 (22 + 11 * i)))) := by
  unfold sp_X6_picks pE
  dsimp only
  rw [o7 h20, if_neg c]
  generalize sp_X6_brings N Z (nI i) (sp_X6_room N Z (nI i)) = B
  rw [o7 h20, l7 h20, o9 h20, l9 h20, o10 h20, l10 h20, o6 h20, a0, a7]
  simp (disch := omega) only [pk_un]
/-- the class's pick, behind its refill -/
def pk4 (r : Int32 × ((Nat → Int32) × (Nat → Int32))) (i : Nat) (x : Int32) : Int32 × ((Nat → Int32) × (Nat → Int32)) := (r.1 + sp_X2_walkTo (r.2.1 (22 + 11 * i)), (pE r.2.1 i x (sp_X2_walkTo (r.2.1 (22 + 11 * i))), r.2.2))
theorem pick_unf (h20 : i < 20) {x : Int32} : sp_X4_pickUnits N G (nI i) x = if sp_X4_isGood N G (nI i) = 0 then (-1, (N, G)) else if sp_X6_in x 1 200 = 0 then (-1, (N, G)) else if sp_X4_isPlaced N G (nI i) = 0 then (-2, (N, G)) else if x ≤ N (23 + 11 * i) then (if x ≤ N (23 + 11 * i) + 0 then pk4 (sp_X4_bring N G (nI i) 0) i x else (-2, (N, G))) else if N 4 = 1 then (if x ≤ N (23 + 11 * i) + sp_X4_unitsToBring N G (nI i) then pk4 (sp_X4_bring N G (nI i) (sp_X4_unitsToBring N G (nI i))) i x else (-2, (N, G))) else (if x ≤ N (23 + 11 * i) + 0 then pk4 (sp_X4_bring N G (nI i) 0) i x else (-2, (N, G))) := by
  unfold sp_X4_pickUnits
  dsimp only
  have e2 : ix (2 : Int32) = 2 := rfl
  rw [xI (show i < 1000 by omega), e2, is_in]
  generalize sp_X4_bring N G (nI i) 0 = B0
  generalize sp_X4_bring N G (nI i) (sp_X4_unitsToBring N G (nI i)) = B1
  unfold pk4
  rw [← pE_c, ← pE_c]
  simp (disch := omega) only [pk_un]
theorem fdq_pE {M : Nat → Int32} {x w : Int32} (h : fdq i N M) : fdq i N (pE M i x w) := fdq_u (Or.inr (Or.inl (by omega))) (fdq_u (Or.inl (by omega)) (fdq_u (Or.inr (Or.inr (by omega))) (fdq_u (Or.inr (Or.inr (by omega))) (fdq_u (Or.inr (Or.inr (by omega))) h))))
theorem pE_23 {x w : Int32} : pE N i x w (23 + 11 * i) = N (23 + 11 * i) - x := by
  unfold pE
  simp (disch := omega) only [pk_un, pk_us]
theorem pE_24 {x w : Int32} : pE N i x w (24 + 11 * i) = N (24 + 11 * i) := by
  unfold pE
  simp (disch := omega) only [pk_un, pk_us]
theorem pE_25 {x w : Int32} : pE N i x w (25 + 11 * i) = N (25 + 11 * i) + 1 := by
  unfold pE
  simp (disch := omega) only [pk_un, pk_us]
theorem inc1 {x : Int32} {b : Int} (hb : b ≤ 100000) (h1 : 0 ≤ x.toInt) (h2 : x.toInt ≤ b) : 0 ≤ (x + 1).toInt ∧ (x + 1).toInt ≤ b + 1 := by
  have e : (1 : Int32).toInt = 1 := by decide
  rw [add_toInt (by rw [e]; omega) (by rw [e]; omega), e]
  omega
theorem wf_pE (hb : b ≤ 100000) (h : wf b N G) (hi : (i : Int) < (N 0).toInt) {x w : Int32} (hx : 1 ≤ x.toInt) (hx2 : x.toInt ≤ (N (23 + 11 * i)).toInt) : wf (b + 1) (pE N i x w) G := by
  have p := h.g hi
  have p1 := p.st
  have p2 := p.u
  have p3 := p.c
  refine (fdq_pE fdq_rf).wf h hi (by omega) ?_ ?_ ?_
  · rw [pE_23, sub_toInt (by omega) (by omega)]; omega
  · rw [pE_23, pE_24, sub_toInt (by omega) (by omega)]; omega
  · rw [pE_25]; exact inc1 hb p.k.1 p.k.2
/-- a pick that can be -/
theorem pick_go (hb : b ≤ 100000) (h : wf b N G) (hi : (i : Int) < (N 0).toInt) (hf : f < 60) (hp : N (22 + 11 * i) = nI f) {x : Int32} (hx : 1 ≤ x.toInt) (c : x.toInt ≤ (N (23 + 11 * i)).toInt ∨ (¬ x ≤ N (23 + 11 * i) ∧ x.toInt ≤ (N (23 + 11 * i)).toInt + (sp_X6_room N Z (nI i)).toInt)) :
    (x.toInt ≤ (N (23 + 11 * i)).toInt → pk4 (sp_X4_bring N G (nI i) 0) i x = ((sp_X6_picks N Z (nI i) x).1, ((sp_X6_picks N Z (nI i) x).2, G))) ∧ (¬ x ≤ N (23 + 11 * i) → pk4 (sp_X4_bring N G (nI i) (sp_X4_unitsToBring N G (nI i))) i x = ((sp_X6_picks N Z (nI i) x).1, ((sp_X6_picks N Z (nI i) x).2, G))) ∧ wf (b + 1) (sp_X6_picks N Z (nI i) x).2 G ∧ ¬ (sp_X6_picks N Z (nI i) x).1 < 0 := by
  have h20 := h.n20 hi
  have ww := wk_lo f hf
  by_cases d : x ≤ N (23 + 11 * i)
  · have d2 := d
    rw [le_toInt] at d2
    rw [picks_lo h20 d, hp]
    refine ⟨fun _ => ?_, fun q => absurd d q, wf_pE hb h hi hx d2, ?_⟩
    · rw [bring0 h hi hf hp]
      unfold pk4
      dsimp only
      rw [hp, wkT' f hf]
    · dsimp only
      rw [Int32.zero_add, lt_toInt, i0]; omega
  · have d2 := d
    rw [le_toInt] at d2
    have c2 : x.toInt ≤ (N (23 + 11 * i)).toInt + (sp_X6_room N Z (nI i)).toInt := by
      rcases c with q | q
      · omega
      · exact q.2
    have rb := room_b (Z := Z) h hi
    have er := room_eq (N := N) (G := G) (Z := Z) h20
    have p3 := (h.g hi).c
    have p2 := (h.g hi).u
    rw [picks_hi h20 d, brings_eq h20, er]
    dsimp only
    rw [bR_22, hp]
    obtain ⟨t, q, p, t1, t2, t3, t4, t5, t6, t7⟩ := walked h hi hf rb.1 rb.2.1
    refine ⟨fun q => by omega, fun _ => ?_, ?_, ?_⟩
    · rw [bring_eq (Z := Z) h20 h.t.2.1.1 hf hp, brings_eq h20]
      unfold pk4
      dsimp only
      rw [bR_22, hp, wkT' f hf]
    · refine wf_pE hb (wf_bR h hi) (by rw [fdq_bR (N := N) (i := i) 0 (by omega)]; exact hi) hx ?_
      rw [bR_23, add_toInt (by omega) (by omega)]
      exact c2
    · rw [t7]
      have : t * p ≤ 8499 * 249 := Nat.mul_le_mul t1 t3
      exact nI_pos (by omega)
theorem canPick_1 (h20 : i < 20) (c4 : N 4 = 1) (hn : ¬ N (22 + 11 * i) = -1) {x : Int32} : sp_X6_canPick N Z (nI i) x = if N (23 + 11 * i) + sp_X6_room N Z (nI i) < x then 0 else 1 := by
  unfold sp_X6_canPick
  rw [if_pos c4, o6 h20, if_neg hn, o7 h20]
theorem canPick_0 (h20 : i < 20) (c4 : ¬ N 4 = 1) (hn : ¬ N (22 + 11 * i) = -1) {x : Int32} : sp_X6_canPick N Z (nI i) x = if N (23 + 11 * i) + 0 < x then 0 else 1 := by
  unfold sp_X6_canPick
  rw [if_neg c4, o6 h20, if_neg hn, o7 h20]
theorem canPick_no (h20 : i < 20) (hn : N (22 + 11 * i) = -1) {x : Int32} : sp_X6_canPick N Z (nI i) x = 0 := by
  unfold sp_X6_canPick
  rw [o6 h20, if_pos hn, if_pos hn, ite_self]
theorem lt_le {x y : Int32} (h : x ≤ y) : ¬ y < x := by rw [le_toInt] at h; rw [lt_toInt]; omega
theorem nle_lt {x y : Int32} (h : ¬ x ≤ y) : y < x := by rw [le_toInt] at h; rw [lt_toInt]; omega
/-- a pick, without the question whether there is the good and the units are in range -/
theorem pick_core (hb : b ≤ 100000) (h : wf b N G) (hi : (i : Int) < (N 0).toInt) {x : Int32} (hin : ¬ sp_X6_in x 1 200 = 0) :
    (sp_X6_canPick N Z (nI i) x = 0 → sp_X4_pickUnits N G (nI i) x = (-2, (N, G))) ∧ (¬ sp_X6_canPick N Z (nI i) x = 0 → ∀ Z1, sp_X4_pickUnits N G (nI i) x = ((sp_X6_picks N Z1 (nI i) x).1, ((sp_X6_picks N Z1 (nI i) x).2, G)) ∧ wf (b + 1) (sp_X6_picks N Z1 (nI i) x).2 G ∧ ¬ (sp_X6_picks N Z1 (nI i) x).1 < 0) := by
  have h20 := h.n20 hi
  have qx := min_of hin
  rw [show (1 : Int32).toInt = 1 from by decide, show (200 : Int32).toInt = 200 from by decide] at qx
  have p2 := (h.g hi).u
  have p3 := (h.g hi).c
  rw [pick_unf h20, if_neg (fun q => (g4 h.sf).mp q ⟨i, hi, rfl⟩), if_neg hin]
  rcases (h.g hi).p with c1 | ⟨f, hf, hp⟩
  · rw [if_pos ((pplaced h20 (h.g hi).p).mpr c1), canPick_no h20 c1]
    exact ⟨fun _ => rfl, fun q => absurd rfl q⟩
  · have c1 : ¬ N (22 + 11 * i) = -1 := by rw [hp]; exact nI_nm1 (by omega)
    have rb := room_b (Z := Z) h hi
    have er := room_eq (N := N) (G := G) (Z := Z) h20
    rw [if_neg (fun q => c1 ((pplaced h20 (h.g hi).p).mp q))]
    by_cases d : x ≤ N (23 + 11 * i)
    · have d2 := d
      rw [le_toInt] at d2
      have ec : sp_X6_canPick N Z (nI i) x = 1 := by
        by_cases c4 : N 4 = 1
        · rw [canPick_1 h20 c4 c1, if_neg (by rw [lt_toInt, add_toInt (by omega) (by omega)]; omega)]
        · rw [canPick_0 h20 c4 c1, Int32.add_zero, if_neg (lt_le d)]
      rw [ec, if_pos d, Int32.add_zero, if_pos d]
      refine ⟨fun q => absurd q (by decide), fun _ Z1 => ?_⟩
      obtain ⟨g1, g2, g3, g4⟩ := pick_go (Z := Z1) hb h hi hf hp qx.1 (Or.inl d2)
      exact ⟨g1 d2, g3, g4⟩
    · rw [if_neg d]
      by_cases c4 : N 4 = 1
      · rw [canPick_1 h20 c4 c1, if_pos c4, er]
        by_cases e : x ≤ N (23 + 11 * i) + sp_X6_room N Z (nI i)
        · rw [if_pos e, if_neg (lt_le e)]
          refine ⟨fun q => absurd q (by decide), fun _ Z1 => ?_⟩
          have er1 := room_eq (N := N) (G := G) (Z := Z1) h20
          have e2 := e
          rw [le_toInt, add_toInt (by omega) (by omega)] at e2
          obtain ⟨g1, g2, g3, g4⟩ := pick_go (Z := Z1) hb h hi hf hp qx.1 (Or.inr ⟨d, by rw [← er1, er]; exact e2⟩)
          exact ⟨by rw [← er]; exact g2 d, g3, g4⟩
        · rw [if_neg e, if_pos (nle_lt e)]
          exact ⟨fun _ => rfl, fun q => absurd rfl q⟩
      · rw [canPick_0 h20 c4 c1, if_neg c4, Int32.add_zero, if_neg d, if_pos (nle_lt d)]
        exact ⟨fun _ => rfl, fun q => absurd rfl q⟩
theorem r_pick (hb : b ≤ 100000) (h : wf b N G) {x y : Int32} : stp (b + 1) N Z (sp_X4_pickUnits N G x y) (sp_X6_pick N Z x y) := by
  unfold sp_X6_pick
  dsimp only
  by_cases hg : isg N x
  · rw [if_neg (fun q => (g6 h.sf).mp q hg)]
    obtain ⟨i, hi, rfl⟩ := hg
    have h20 := h.n20 hi
    by_cases hy : sp_X6_in y 1 200 = 0
    · rw [if_pos hy, pick_unf h20, if_neg (fun q => (g4 h.sf).mp q ⟨i, hi, rfl⟩), if_pos hy]
      exact stp_no (by decide)
    · rw [if_neg hy]
      obtain ⟨k1, k2⟩ := pick_core (Z := Z) hb h hi hy
      by_cases c : sp_X6_canPick N Z (nI i) y = 0
      · rw [if_pos c, k1 c]
        exact stp_no (by decide)
      · obtain ⟨k3, k4, k5⟩ := k2 c (sp_X6_records N Z)
        rw [if_neg c, k3]
        exact stp_yes rfl k5 (fun _ _ => rfl) k4
  · rw [if_pos ((g6 h.sf).mpr hg)]
    unfold sp_X4_pickUnits
    rw [if_pos ((g4 h.sf).mpr hg)]
    exact stp_no (by decide)
end PK
