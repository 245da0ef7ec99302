/-! PURE: improving; how class and model go on together -/
def za (Z Y : Nat → Nat → Int32) : Prop := Y 0 0 = Z 0 0 ∧ Y 0 1 = Z 0 1 ∧ (∀ j, j < 944 → Y 1 j = Z 1 j) ∧ ∀ j, j < 60 → Y 3 j = Z 3 j
theorem za.rf {Z : Nat → Nat → Int32} : za Z Z := ⟨rfl, rfl, fun _ _ => rfl, fun _ _ => rfl⟩
theorem za.tr {a b c : Nat → Nat → Int32} (h1 : za a b) (h2 : za b c) : za a c := ⟨h2.1.trans h1.1, h2.2.1.trans h1.2.1, fun j hj => (h2.2.2.1 j hj).trans (h1.2.2.1 j hj), fun j hj => (h2.2.2.2 j hj).trans (h1.2.2.2 j hj)⟩
theorem za_fq {Z Y : Nat → Nat → Int32} (h : fq Z Y) : za Z Y := ⟨h 0 0 (Or.inr (by decide)), h 0 1 (Or.inr (by decide)), fun j _ => h 1 j (Or.inl (by decide)), fun j _ => h 3 j (Or.inl (by decide))⟩
theorem za_RA {Z Y : Nat → Nat → Int32} (h : RA Z Y) : za Z Y := ⟨h 0 0 (Or.inr (by decide)), h 0 1 (Or.inr (by decide)), fun j _ => h 1 j (Or.inl (by decide)), fun j _ => h 3 j (Or.inl (by decide))⟩
theorem wf.mono {b b' : Int} {N G : Nat → Int32} (hb : b ≤ b') (h : wf b N G) : wf b' N G := by
  refine ⟨h.sf, fun g hg => ?_, h.2.2.1, h.t, h.sl, h.bs⟩
  have q := h.g hg
  exact wfg.mk q.w q.c (fun s hs => q.d hs) q.p q.u q.st ⟨q.k.1, by have := q.k.2; omega⟩
/-- a call that may change something: class (on now) and model -/
def stp (b : Int) (N : Nat → Int32) (Z : Nat → Nat → Int32) (f4 : Int32 × ((Nat → Int32) × (Nat → Int32))) (f6 : Int32 × ((Nat → Int32) × (Nat → Nat → Int32))) : Prop :=
  f4.1 = f6.1 ∧ ((f4.1 < 0 ∧ f6.2.1 = N ∧ za Z f6.2.2) ∨ (¬ f4.1 < 0 ∧ (∀ j, j ≠ 10 → f4.2.1 j = f6.2.1 j) ∧ wf b f6.2.1 f4.2.2 ∧ ∃ Z0, za Z Z0 ∧ za (sp_X6_records N Z0) f6.2.2))
section PI
variable {N N' G G' : Nat → Int32} {Z : Nat → Nat → Int32} {b : Int} {i s g f : Nat}
theorem stp_no {x : Int32} {F : (Nat → Int32) × (Nat → Int32)} (hx : x < 0) : stp b N Z (x, F) (x, (N, Z)) := ⟨rfl, Or.inl ⟨hx, rfl, za.rf⟩⟩
theorem stp_yes {x y : Int32} {M M6 F : Nat → Int32} (e : x = y) (hx : ¬ x < 0) (hj : ∀ j, j ≠ 10 → M j = M6 j) (h : wf b M6 F) : stp b N Z (x, (M, F)) (y, (M6, sp_X6_records N Z)) := ⟨e, Or.inr ⟨hx, hj, h, Z, za.rf, za.rf⟩⟩
theorem bd1 {g s : Nat} (hg : g < 20) (hs : s < 60) : nI (g * 60 + s) / (60 : Int32) = nI g := by
  rw [show (60 : Int32) = nI 60 from rfl, pk_div (by omega) (by decide) (by decide)]
  congr 1; omega
theorem bd2 {g s : Nat} (hg : g < 20) (hs : s < 60) : nI (g * 60 + s) - nI (g * 60 + s) / (60 : Int32) * (60 : Int32) = nI s := by
  rw [bd1 hg hs, show (60 : Int32) = nI 60 from rfl, pk_mul, pk_sub (by omega)]
  congr 1; omega
theorem im_l {x : Int32} (hx : x.toInt ≤ 10) : ∀ (n m : Nat) (v3 t : Int32) (N G : Nat → Int32) (Z : Nat → Nat → Int32), wf b N G → (∃ v, brr N G v3 v Z) → 1 ≤ m → (m : Int) ≤ x.toInt → x.toInt - (m : Int) < (n : Int) →
    (lp19_X4_doBest x n (nI m) v3 N G).1 = (lp34_X6_improve x n (nI m) t N Z).1 ∧ ¬ (lp19_X4_doBest x n (nI m) v3 N G).1 < 0 ∧ (lp19_X4_doBest x n (nI m) v3 N G).2.1 = (lp34_X6_improve x n (nI m) t N Z).2.1 ∧ wf b (lp34_X6_improve x n (nI m) t N Z).2.1 (lp19_X4_doBest x n (nI m) v3 N G).2.2 ∧ za Z (lp34_X6_improve x n (nI m) t N Z).2.2 := by
  intro n
  induction n with
  | zero => intro m v3 t N G Z _ _ _ h1 h2; exfalso; omega
  | succ n ih =>
    intro m v3 t N G Z h hv h1 h2 h3
    have m0 : ¬ nI m = 0 := nI_ne0 (by omega) (by omega)
    have mn : ¬ nI m < 0 := nI_pos (by omega)
    rw [lp19_X4_doBest_s, lp34_X6_improve_s]
    dsimp only
    by_cases c : x ≤ nI m
    · rw [if_pos c, if_pos c, if_neg m0]
      exact ⟨rfl, mn, rfl, h, za.rf⟩
    · rw [if_neg c, if_neg c]
      obtain ⟨v, hv⟩ := hv
      rcases hv with ⟨q1, _, q3⟩ | ⟨g, s, hg, hs, q1, q2, q3, q4, q5, q6, q7⟩
      · rw [q1, q3, if_pos (by decide : (-4 : Int32) < 0), if_pos (by decide : (0 : Int32) ≤ 0), if_neg m0]
        exact ⟨rfl, mn, rfl, h, za.rf⟩
      · have hg20 := h.n20 hg
        have c4 : ¬ Z 0 4 ≤ 0 := by
          rw [← q4]
          rw [lt_toInt, i0] at q5
          rw [le_toInt, i0]
          omega
        rw [q1, if_neg (nI_pos (by omega)), if_neg c4, bd2 hg20 hs, bd1 hg20 hs, q2, q3, nI_1]
        obtain ⟨g1, g2, g3, _⟩ := go_all (Z := Z) h hg hs q7
        rw [g2]
        rw [le_toInt, tI (by omega)] at c
        have r := ih (m + 1) (sp_X4_bestGoing (sp_X6_goes N Z (nI g) (nI s)).2 (sp_X4_goTo N G (nI g) (nI s)).2.2) (t + (sp_X6_goes N Z (nI g) (nI s)).1) _ _ (sp_X6_finds (sp_X6_goes N Z (nI g) (nI s)).2 Z) g3 (br g3) (by omega) (by omega) (by omega)
        exact ⟨r.1, r.2.1, r.2.2.1, r.2.2.2.1, (za_fq (fnd g3.sf).1).tr r.2.2.2.2⟩
theorem r_improve (h : wf b N G) {x : Int32} : stp b N Z (sp_X4_doBest N G x) (sp_X6_improve N Z x) := by
  unfold sp_X4_doBest sp_X6_improve
  by_cases hy : sp_X6_in x 1 10 = 0
  · rw [if_pos hy, is_in, if_pos hy]
    exact stp_no (by decide)
  · rw [if_neg hy, is_in, if_neg hy]
    dsimp only
    have q := min_of hy
    rw [show (1 : Int32).toInt = 1 from by decide, show (10 : Int32).toInt = 10 from by decide] at q
    have hf := za_fq (fnd (Z := Z) h.sf).1
    obtain ⟨v, hv⟩ := br (Z := Z) h
    generalize sp_X4_bestGoing N G = v3 at *
    generalize sp_X6_finds N Z = Y at *
    have c : ¬ x ≤ 0 := by rw [le_toInt, i0]; omega
    rcases hv with ⟨q1, _, q3⟩ | ⟨g, s, hg, hs, q1, q2, q3, q4, q5, q6, q7⟩
    · rw [q3, if_pos rfl, lp19_X4_doBest_s, if_neg c, q1, if_pos (by decide : (-4 : Int32) < 0), if_pos rfl]
      exact ⟨rfl, Or.inl ⟨(by decide : (-4 : Int32) < 0), rfl, hf⟩⟩
    · have hg20 := h.n20 hg
      have c0 : 0 < Y 0 4 := q4 ▸ q5
      have c4 : ¬ Y 0 4 = 0 := fun e => by rw [e] at c0; exact absurd c0 (by decide)
      have c5 : ¬ Y 0 4 ≤ 0 := by
        rw [lt_toInt, i0] at c0
        rw [le_toInt, i0]
        omega
      rw [if_neg c4, lp19_X4_doBest_s, lp34_X6_improve_s, if_neg c, if_neg c, rcq (by decide) (Or.inr (by decide)), rcq (by decide) (Or.inr (by decide)), rcq (by decide) (Or.inr (by decide)), if_neg c5, q1, if_neg (nI_pos (by omega)), bd2 hg20 hs, bd1 hg20 hs, q2, q3]
      dsimp only
      obtain ⟨g1, g2, g3, _⟩ := go_all (Z := sp_X6_records N Y) h hg hs q7
      rw [g2, show (0 : Int32) + (1 : Int32) = nI 1 from by decide]
      have r := im_l (x := x) (by omega) 10 1 (sp_X4_bestGoing (sp_X6_goes N (sp_X6_records N Y) (nI g) (nI s)).2 (sp_X4_goTo N G (nI g) (nI s)).2.2) (0 + (sp_X6_goes N (sp_X6_records N Y) (nI g) (nI s)).1) _ _ (sp_X6_finds (sp_X6_goes N (sp_X6_records N Y) (nI g) (nI s)).2 (sp_X6_records N Y)) g3 (br g3) (by omega) (by omega) (by omega)
      exact ⟨r.1, Or.inr ⟨r.2.1, fun j _ => congrFun r.2.2.1 j, r.2.2.2.1, Y, hf, (za_fq (fnd g3.sf).1).tr r.2.2.2.2⟩⟩
end PI
