/-! PURE: what moves and exchanges are worth; the best -/
section WO
variable {N G : Nat → Int32} {b : Int} {i s f g : Nat}
theorem wch (h : wf b N G) (hi : (i : Int) < (N 0).toInt) (hs : s < 60) {w : Int32} (hw : w = 0 ∨ w = 1 ∨ w = 2) : sp_X4_numberOfChange N G (nI i) (nI s) w = if sp_X4_canGo N G (nI i) (nI s) = 0 then -2 else if w = 2 then sp_X4_walkOfGoing N G (nI i) (nI s) else if w = 0 then (100000000 : Int32) + sp_X4_worthOfGoing N G (nI i) (nI s) else (100000000 : Int32) + sp_X4_savedByGoing N G (nI i) (nI s) := by
  unfold sp_X4_numberOfChange
  rw [if_neg (isg_in h.sf hi), if_neg (iss_in hs)]
  have e : ¬ sp_X5_isIn w (0 : Int32) (2 : Int32) = 0 := by
    rcases hw with rfl | rfl | rfl <;> decide
  rw [if_neg e]
theorem way_b : ∀ a, a < 60 → ∀ c, c < 60 → 0 ≤ (sp_X2_wayBetween (nI a) (nI c)).toInt ∧ (sp_X2_wayBetween (nI a) (nI c)).toInt ≤ 60 := by decide +kernel
theorem wl_b : ∀ m, m < 13 → (13 : Int32) - nI m = nI (13 - m) := by decide
theorem wleft (hs : sfN N) : ∃ w : Nat, 1 ≤ w ∧ w ≤ 13 ∧ sp_X4_weeksLeft N G = nI w := by
  obtain ⟨k, hk, e⟩ := nat_of (n := 1000) hs.2.2.1 (by have := hs.2.2.2; omega)
  unfold sp_X4_weeksLeft
  have e2 : N 1 - N 1 / (13 : Int32) * (13 : Int32) = nI (k % 13) := by
    rw [e, show (13 : Int32) = nI 13 from rfl, pk_div (by omega) (by decide) (by decide), pk_mul, pk_sub (by omega)]
    congr 1
    have := Nat.div_add_mod k 13
    omega
  have hm : k % 13 < 13 := Nat.mod_lt _ (by decide)
  exact ⟨13 - k % 13, by omega, by omega, by rw [e2, wl_b _ hm]⟩
/-- what going is worth: a number that is not too far from 0 -/
theorem wth_b (h : wf b N G) (hi : (i : Int) < (N 0).toInt) (hs : s < 60) (c : ¬ sp_X4_canGo N G (nI i) (nI s) = 0) : -1000000 ≤ (sp_X4_worthOfGoing N G (nI i) (nI s)).toInt ∧ (sp_X4_worthOfGoing N G (nI i) (nI s)).toInt ≤ 1000000 := by
  obtain ⟨f, hf, hp⟩ := pgo_p h hi c
  have h20 := h.n20 hi
  obtain ⟨w, w1, w13, ew⟩ := wleft (G := G) h.sf
  have g := go_all (Z := fun _ _ => 0) h hi hs c
  have hsv : sp_X4_savedByGoing N G (nI i) (nI s) = (sp_X6_goes N (fun _ _ => 0) (nI i) (nI s)).1 := by
    rw [psav (Z := fun _ _ => 0) h hi hs hf hp]
    rcases h.sl.2 s hs with hG | ⟨g, hg, hG, hsl⟩
    · rw [go6_free h hi hs hG]
    · rw [go6_ex h hi hs hp hg hG]
  have hb := g.2.2.2
  rw [← hsv] at hb
  have hwk : 0 ≤ (sp_X4_walkOfGoing N G (nI i) (nI s)).toInt ∧ (sp_X4_walkOfGoing N G (nI i) (nI s)).toInt ≤ 200 := by
    have yb := way_b f hf s hs
    have pw := (h.g hi).w
    have e1 : (sp_X2_wayBetween (nI f) (nI s) + N (16 + 11 * i)).toInt = (sp_X2_wayBetween (nI f) (nI s)).toInt + (N (16 + 11 * i)).toInt := add_toInt (by omega) (by omega)
    unfold sp_X4_walkOfGoing
    rw [xI (show i < 1000 by omega), xI (show s < 1000 by omega), hp]
    rcases h.sl.2 s hs with hG | ⟨g, hg, hG, hsl⟩
    · rw [if_pos ((pfree h.sf h.sl hs).mpr hG), Int32.add_zero, e1]; omega
    · have hg20 := h.n20 hg
      have pw2 := (h.g hg).w
      have e2 : (sp_X2_wayBetween (nI f) (nI s) + N (16 + 11 * g)).toInt = (sp_X2_wayBetween (nI f) (nI s)).toInt + (N (16 + 11 * g)).toInt := add_toInt (by omega) (by omega)
      rw [hG, if_neg (isg_in h.sf hg), xI (show g < 1000 by omega), add_toInt (by rw [e1, e2]; omega) (by rw [e1, e2]; omega), e1, e2]; omega
  unfold sp_X4_worthOfGoing
  rw [ew]
  generalize sp_X4_savedByGoing N G (nI i) (nI s) = v at *
  generalize sp_X4_walkOfGoing N G (nI i) (nI s) = u at *
  have ewI : (nI w).toInt = (w : Int) := tI (by omega)
  have m1 : -44955 * 13 ≤ v.toInt * (w : Int) ∧ v.toInt * (w : Int) ≤ 44955 * 13 := by
    have a1 := Int.mul_le_mul_of_nonneg_right hb.2 (show (0 : Int) ≤ (w : Int) by omega)
    have a2 := Int.mul_le_mul_of_nonneg_right hb.1 (show (0 : Int) ≤ (w : Int) by omega)
    omega
  have em : (v * nI w).toInt = v.toInt * (w : Int) := by
    rw [mul_toInt (by rw [ewI]; omega) (by rw [ewI]; omega), ewI]
  rw [sub_toInt (by rw [em]; omega) (by rw [em]; omega), em]
  omega
theorem wth_n (h : wf b N G) (hi : (i : Int) < (N 0).toInt) (hs : s < 60) (c : ¬ sp_X4_canGo N G (nI i) (nI s) = 0) : (0 : Int32) ≤ (100000000 : Int32) + sp_X4_worthOfGoing N G (nI i) (nI s) := by
  have e := wth_b h hi hs c
  have e8 : (100000000 : Int32).toInt = 100000000 := by decide
  rw [le_toInt, i0, add_toInt (by rw [e8]; omega) (by rw [e8]; omega), e8]
  omega
theorem due_e {sv wl wk : Int32} : ((100000000 : Int32) + sv - 100000000) * wl - wk = (100000000 : Int32) + (sv * wl - wk) - 100000000 := by grind
theorem due_w : ((100000000 : Int32) + sp_X4_savedByGoing N G (nI i) (nI s) - 100000000) * sp_X4_weeksLeft N G - sp_X4_walkOfGoing N G (nI i) (nI s) = sp_X4_worthOfGoing N G (nI i) (nI s) := by
  unfold sp_X4_worthOfGoing
  grind
theorem up8 {w : Int32} : (100000000 : Int32) + w - 100000000 = w := by grind
/-- canGo, opened -/
theorem canGo_ex (h : wf b N G) (hi : (i : Int) < (N 0).toInt) (hs : s < 60) (hg : (g : Int) < (N 0).toInt) (hG : G s = nI g) (hf : f < 60) (hp : N (22 + 11 * i) = nI f) : ¬ sp_X4_canGo N G (nI i) (nI s) = 0 ↔ (f ≠ s ∧ N (16 + 11 * i) ≤ sp_X2_heaviestAt (nI s) ∧ N (16 + 11 * g) ≤ sp_X2_heaviestAt (nI f)) := by
  have h20 := h.n20 hi
  have hg20 := h.n20 hg
  unfold sp_X4_canGo
  rw [xI (show i < 1000 by omega), xI (show s < 1000 by omega), hG, hp, if_neg (iss_in hf), if_neg (isg_in h.sf hg)]
  by_cases e2 : nI f = nI s
  · rw [if_pos e2]
    have := nI_inj (by omega) (by omega) e2
    exact ⟨fun q => absurd rfl q, fun q => absurd this q.1⟩
  · have e2' : f ≠ s := fun q => e2 (by rw [q])
    rw [if_neg e2]
    by_cases e3 : sp_X4_bears N G (nI s) (nI i) = 0
    · rw [if_pos e3]
      exact ⟨fun q => absurd rfl q, fun q => absurd e3 (le_bears h20 q.2.1)⟩
    · rw [if_neg e3]
      by_cases e4 : sp_X4_bears N G (nI f) (nI g) = 0
      · rw [if_pos e4]
        exact ⟨fun q => absurd rfl q, fun q => absurd e4 (le_bears hg20 q.2.2)⟩
      · rw [if_neg e4]
        exact ⟨fun _ => ⟨e2', bears_le h20 e3, bears_le hg20 e4⟩, fun _ => by decide⟩
theorem canGo_free (h : wf b N G) (hi : (i : Int) < (N 0).toInt) (hs : s < 60) (hG : G s = -1) (hf : f < 60) (hp : N (22 + 11 * i) = nI f) (hw : N (16 + 11 * i) ≤ sp_X2_heaviestAt (nI s)) : ¬ sp_X4_canGo N G (nI i) (nI s) = 0 := by
  have h20 := h.n20 hi
  unfold sp_X4_canGo
  rw [xI (show i < 1000 by omega), xI (show s < 1000 by omega), hp, if_neg (iss_in hf), if_pos ((pfree h.sf h.sl hs).mpr hG)]
  have e2 : ¬ nI f = nI s := by
    intro q
    have q2 := h.sl.1 i f hi hf hp
    rw [nI_inj (by omega) (by omega) q, hG] at q2
    exact nI_nm1 (by omega) q2.symm
  rw [if_neg e2, if_neg (le_bears h20 hw)]
  decide
theorem way_sy : ∀ a, a < 60 → ∀ c, c < 60 → sp_X2_wayBetween (nI a) (nI c) = sp_X2_wayBetween (nI c) (nI a) := by decide +kernel
/-- an exchange, seen from the other good -/
theorem ex_sym (h : wf b N G) (hi : (i : Int) < (N 0).toInt) (hs : s < 60) (hg : (g : Int) < (N 0).toInt) (hG : G s = nI g) (hsl : N (22 + 11 * g) = nI s) (hf : f < 60) (hp : N (22 + 11 * i) = nI f) (c : ¬ sp_X4_canGo N G (nI i) (nI s) = 0) : ¬ sp_X4_canGo N G (nI g) (nI f) = 0 ∧ sp_X4_worthOfGoing N G (nI g) (nI f) = sp_X4_worthOfGoing N G (nI i) (nI s) ∧ g ≠ i := by
  have h20 := h.n20 hi
  have hg20 := h.n20 hg
  have hGf := h.sl.1 i f hi hf hp
  obtain ⟨c1, c2, c3⟩ := (canGo_ex h hi hs hg hG hf hp).mp c
  refine ⟨(canGo_ex h hg hf hi hGf hs hsl).mpr ⟨fun q => c1 q.symm, c3, c2⟩, ?_, fun q => ?_⟩
  · have e1 : sp_X4_savedByGoing N G (nI g) (nI f) = sp_X4_savedByGoing N G (nI i) (nI s) := by
      unfold sp_X4_savedByGoing
      rw [xI (show f < 1000 by omega), xI (show s < 1000 by omega), hGf, hG, if_neg (isg_in h.sf hi), if_neg (isg_in h.sf hg), xI (show i < 1000 by omega), xI (show g < 1000 by omega), hp, hsl]
      grind
    have e2 : sp_X4_walkOfGoing N G (nI g) (nI f) = sp_X4_walkOfGoing N G (nI i) (nI s) := by
      unfold sp_X4_walkOfGoing
      rw [xI (show f < 1000 by omega), xI (show s < 1000 by omega), hGf, hG, if_neg (isg_in h.sf hi), if_neg (isg_in h.sf hg), xI (show i < 1000 by omega), xI (show g < 1000 by omega), hp, hsl, way_sy s hs f hf]
      grind
    unfold sp_X4_worthOfGoing
    rw [e1, e2]
  · subst q
    exact c1 (nI_inj (by omega) (by omega) (hp.symm.trans hsl))
/-- the best among the first i * 60 + s: the good, the slot, what it is worth -/
def bsS (N G : Nat → Int32) (i s : Nat) (t : Int32 × Int32 × Int32) : Int32 × Int32 × Int32 := if sp_X4_canGo N G (nI i) (nI s) = 0 then t else if sp_X4_worthOfGoing N G (nI i) (nI s) ≤ t.2.2 then t else (nI i, nI s, sp_X4_worthOfGoing N G (nI i) (nI s))
def bsR (N G : Nat → Int32) (i : Nat) (t : Int32 × Int32 × Int32) : Nat → Int32 × Int32 × Int32
  | 0 => t
  | s + 1 => bsS N G i s (bsR N G i t s)
def bsA (N G : Nat → Int32) : Nat → Int32 × Int32 × Int32
  | 0 => (-4, -4, 0)
  | i + 1 => bsR N G i (bsA N G i) 60
theorem bsS_no {t : Int32 × Int32 × Int32} (c : sp_X4_canGo N G (nI i) (nI s) = 0) : bsR N G i t (s + 1) = bsR N G i t s := if_pos c
theorem bsS_yes {t : Int32 × Int32 × Int32} (c : ¬ sp_X4_canGo N G (nI i) (nI s) = 0) : bsR N G i t (s + 1) = if sp_X4_worthOfGoing N G (nI i) (nI s) ≤ (bsR N G i t s).2.2 then bsR N G i t s else (nI i, nI s, sp_X4_worthOfGoing N G (nI i) (nI s)) := if_neg c
/-- the class's number of it -/
def bsQ (N G : Nat → Int32) (t : Int32 × Int32 × Int32) (v1 v2 : Int32) : Prop := v2 = t.2.2 ∧ ((t = (-4, -4, 0) ∧ v1 = -4) ∨ ∃ g s : Nat, g < 20 ∧ s < 60 ∧ t.1 = nI g ∧ t.2.1 = nI s ∧ v1 = nI (g * 60 + s) ∧ 0 < t.2.2 ∧ sp_X4_worthOfGoing N G t.1 t.2.1 = t.2.2)
theorem bs_in (hi20 : i < 20) {K4 : Int32 → Int32 → Int32 → Int32} {t0 : Int32 × Int32 × Int32} {P : Int32 → Prop} (hK : ∀ v1 v2, bsQ N G (bsR N G i t0 60) v1 v2 → P (K4 v1 v2 (nI i + 1))) : ∀ (k fuel s : Nat) (v1 v2 : Int32), s + k = 60 → k < fuel → bsQ N G (bsR N G i t0 s) v1 v2 → P (lp18_X4_bestGoing N G (nI i) K4 fuel v1 v2 (nI s)) := by
  intro k
  induction k with
  | zero =>
    intro fuel s v1 v2 hs hf hq
    cases fuel with
    | zero => exact absurd hf (by omega)
    | succ f =>
      rw [lp18_X4_bestGoing_s, if_pos (by rw [le_toInt, tI (by omega), i60]; omega)]
      have e : s = 60 := by omega
      subst e
      exact hK v1 v2 hq
  | succ k ih =>
    intro fuel s v1 v2 hs hf hq
    cases fuel with
    | zero => exact absurd hf (by omega)
    | succ f =>
      have hs60 : s < 60 := by omega
      rw [lp18_X4_bestGoing_s, if_neg (by rw [le_toInt, tI (by omega), i60]; omega), nI_1]
      have e1 := ih f (s + 1)
      have es : bsR N G i t0 (s + 1) = bsS N G i s (bsR N G i t0 s) := rfl
      rw [es] at e1
      unfold bsS at e1
      by_cases c : sp_X4_canGo N G (nI i) (nI s) = 0
      · rw [if_pos c]
        rw [if_pos c] at e1
        exact e1 v1 v2 (by omega) (by omega) hq
      · rw [if_neg c]
        rw [if_neg c] at e1
        by_cases c2 : sp_X4_worthOfGoing N G (nI i) (nI s) ≤ v2
        · rw [if_pos c2]
          rw [if_pos (by rw [← hq.1]; exact c2)] at e1
          exact e1 v1 v2 (by omega) (by omega) hq
        · rw [if_neg c2]
          rw [if_neg (by rw [← hq.1]; exact c2)] at e1
          refine e1 _ _ (by omega) (by omega) ⟨rfl, Or.inr ⟨i, s, hi20, hs60, rfl, rfl, ?_, ?_, rfl⟩⟩
          · rw [show (60 : Int32) = nI 60 from rfl, pk_mul, nI_add]
          · have hv2 : (0 : Int32) ≤ v2 := by
              rw [hq.1]
              rcases hq.2 with ⟨e, _⟩ | ⟨_, _, _, _, _, _, _, e, _⟩
              · rw [e]; decide
              · rw [lt_toInt] at e; rw [le_toInt]; omega
            have c3 := nle_lt c2
            show (0 : Int32) < sp_X4_worthOfGoing N G (nI i) (nI s)
            rw [lt_toInt] at c3 ⊢
            rw [le_toInt] at hv2
            omega
theorem bs_out (h : wf b N G) {P : Int32 → Prop} {n : Nat} (hn : (N 0).toInt = (n : Int)) (hP : ∀ v1 v2, bsQ N G (bsA N G n) v1 v2 → P v1) : ∀ (k fuel i : Nat) (v1 v2 : Int32), (N 0).toInt = (i : Int) + (k : Int) → k < fuel → bsQ N G (bsA N G i) v1 v2 → P (lp7_X4_bestGoing N G fuel v1 v2 (nI i)) := by
  intro k
  induction k with
  | zero =>
    intro fuel i v1 v2 hk hf hq
    cases fuel with
    | zero => exact absurd hf (by omega)
    | succ f =>
      rw [lp7_X4_bestGoing_s, if_pos (cend h.sf hk)]
      have e : i = n := by omega
      subst e
      exact hP v1 v2 hq
  | succ k ih =>
    intro fuel i v1 v2 hk hf hq
    cases fuel with
    | zero => exact absurd hf (by omega)
    | succ f =>
      obtain ⟨c1, hi⟩ := cgo h.sf hk
      have h20 := h.n20 hi
      rw [lp7_X4_bestGoing_s, if_neg c1]
      exact bs_in (P := P) h20 (fun w1 w2 hw => by rw [nI_1]; exact ih f (i + 1) w1 w2 (by omega) (by omega) hw) 60 61 0 v1 v2 (by omega) (by omega) hq
theorem bsQ_4 : bsQ N G (-4, -4, 0) (-4) 0 := ⟨rfl, Or.inl ⟨rfl, rfl⟩⟩
/-- what best tells -/
theorem bests (h : wf b N G) {n : Nat} (hn : (N 0).toInt = (n : Int)) : sp_X4_numberOfBest N G 0 = (bsA N G n).1 ∧ sp_X4_numberOfBest N G 1 = (bsA N G n).2.1 ∧ sp_X4_numberOfBest N G 2 = (if (bsA N G n).2.2 = 0 then -4 else (bsA N G n).2.2) := by
  have c := cst h.sf
  have key : ∀ v1 : Int32, (∃ v2, bsQ N G (bsA N G n) v1 v2) → v1 = sp_X4_bestGoing N G → sp_X4_numberOfBest N G 0 = (bsA N G n).1 ∧ sp_X4_numberOfBest N G 1 = (bsA N G n).2.1 ∧ sp_X4_numberOfBest N G 2 = (if (bsA N G n).2.2 = 0 then -4 else (bsA N G n).2.2) := by
    intro v1 hv e
    obtain ⟨v2, e2, hv⟩ := hv
    unfold sp_X4_numberOfBest
    rw [if_neg (by decide : ¬ sp_X5_isIn (0 : Int32) (0 : Int32) (2 : Int32) = 0), if_neg (by decide : ¬ sp_X5_isIn (1 : Int32) (0 : Int32) (2 : Int32) = 0), if_neg (by decide : ¬ sp_X5_isIn (2 : Int32) (0 : Int32) (2 : Int32) = 0), ← e]
    rcases hv with ⟨t4, e4⟩ | ⟨g, s, hg, hs, t1, t2, e1, t3, t5⟩
    · rw [e4, t4]
      exact ⟨if_neg (by decide), if_neg (by decide), (if_neg (by decide)).trans (if_pos rfl).symm⟩
    · have hn0 : ¬ (bsA N G n).2.2 = 0 := by
        intro q
        rw [q] at t3
        exact absurd t3 (by decide)
      have hp0 : (0 : Int32) ≤ nI (g * 60 + s) := by rw [le_toInt, i0, nI_toInt (by omega)]; omega
      rw [if_neg hn0, e1, if_pos hp0, if_pos hp0, if_pos hp0, if_pos rfl, if_neg (by decide : ¬ (1 : Int32) = 0), if_pos rfl, if_neg (by decide : ¬ (2 : Int32) = 0), if_neg (by decide : ¬ (2 : Int32) = 1), bd2 hg hs, bd1 hg hs, t1, t2]
      refine ⟨rfl, rfl, ?_⟩
      rw [t1, t2] at t5
      exact t5
  refine key _ ?_ rfl
  exact bs_out (P := fun v1 => ∃ v2, bsQ N G (bsA N G n) v1 v2) h hn (fun v1 v2 hq => ⟨v2, hq⟩) _ 21 0 (-4) 0 c.1 c.2 bsQ_4
end WO
