/-! PURE: an act of the law -/
theorem upF_r {x w : Int32} (hw : 1 ≤ w.toInt) : ∃ k : Nat, (k : Int) < w.toInt ∧ upF x w = nI k := by
  obtain ⟨j, hj, ej⟩ := pk_andE x (m := 2147483647) 31 (by decide)
  obtain ⟨k, hk, ek⟩ := nI_ofI (x := w) (by omega)
  have ekI : w.toInt = (k : Int) := by rw [ek, nI_toInt hk]
  unfold upF
  rw [ej, ek, pk_div (by omega) (by omega) (by omega), pk_mul, pk_sub (by exact Nat.div_mul_le_self j k)]
  refine ⟨j - j / k * k, ?_, rfl⟩
  rw [nI_toInt hk]
  have h1 := Nat.div_add_mod j k
  have h2 := Nat.mod_lt j (show 0 < k by omega)
  have h3 : k * (j / k) = j / k * k := Nat.mul_comm _ _
  omega
/-- which acts are moves; what they answer -/
def mvK (k : Int32) : Prop := 3 < k ∧ k < 7
def EK (N9 x : Int32) (M G' : Nat → Int32) (r : Int32) : Prop := (upF x 12 = 6 → r = 1 + upF (x >>> ((8 : Int32) &&& 31)) 3 ∨ sp_X4_numberOfBest M G' 0 = -4) ∧ (upF x 12 = 4 ∨ upF x 12 = 5 → r - 100000000 = M 9 - N9)
def gK (x n : Int32) : Nat := ix (upF (x >>> ((4 : Int32) &&& 31)) n)
def actP (b B : Int) (Y : Nat → va_H) (I d : Nat → Int32) (x r : Int32) (Y' : Nat → va_H) (I' d' : Nat → Int32) : Prop :=
  chR (b + 1) (B + 5000) Y I (mvK (upF x 12)) (EK ((Y 4).2.1 9) x) r Y' I' d d' ∧ ∀ j : Nat, j ≠ gK x ((Y 4).2.1 0) → d' j = d j
section AX
variable {Y Y' : Nat → va_H} {S q V : Nat → Int32} {z : Int32} {U : Nat → Int32} {y : Int32} {I I' d d' d0 : Nat → Int32} {b b' B B' : Int} {mv mv' : Prop} {E E' : (Nat → Int32) → (Nat → Int32) → Int32 → Prop} {f : Int32 × ((Nat → Int32) × (Nat → Int32))} {x r : Int32}
theorem chR.weak (h : chR b B Y I mv E r Y' I' d d') (hb : b ≤ b') (hB : B ≤ B') (h1 : mv' → mv) (h2 : ¬ mv' → ¬ mv) (h3 : ∀ M G' r, E M G' r → E' M G' r) : chR b' B' Y I mv' E' r Y' I' d d' := by
  rcases h with h | ⟨c, k, M, m1, m2, m3, m4, m5, m6, m7⟩
  · exact Or.inl h
  · exact Or.inr ⟨c, k, M, m1, m2.mono hb, m3, m4.mono hB, fun w => m5 (h1 w), fun w => m6 (h2 w), h3 _ _ _ m7⟩
theorem act_c (h1 : 0 ≤ (I 0).toInt) (h2 : (I 0).toInt ≤ 4) (hR : opR b B (Y 4).2.1 mv E f d0) (e : chg Y S q V z U y I f = (r, (Y', I'))) : chR b B Y I mv E r Y' I' d (if r < 0 then d else d0) := by
  have h := (chg_x (S := S) (q := q) (V := V) (z := z) (U := U) (y := y) (d := d) h1 h2 hR).1
  rw [e] at h
  exact h
theorem act_n (h1 : 0 ≤ (I 0).toInt) (h2 : (I 0).toInt ≤ 4) (hR : opR b' B (Y 4).2.1 False tru f d) (hb : b' ≤ b + 1) (e : chg Y S q V z U y I f = (r, (Y', I'))) (hk : ¬ mvK (upF x 12)) : actP b B Y I d x r Y' I' d := by
  have h := act_c (d := d) h1 h2 hR e
  rw [ite_self] at h
  refine ⟨h.weak hb (by omega) (fun w => absurd w hk) (fun _ w => w) (fun M G' r _ => ⟨fun w => absurd ?_ hk, fun w => absurd ?_ hk⟩), fun j _ => rfl⟩
  · rw [w]; unfold mvK; decide
  · rcases w with w | w <;> (rw [w]; unfold mvK; decide)
theorem act_m (h1 : 0 ≤ (I 0).toInt) (h2 : (I 0).toInt ≤ 4) (hR : opR b B (Y 4).2.1 True E f d) (e : chg Y S q V z U y I f = (r, (Y', I'))) (hk : mvK (upF x 12)) (hE : ∀ M G' r, E M G' r → EK ((Y 4).2.1 9) x M G' r) : actP b B Y I d x r Y' I' d := by
  have h := act_c (d := d) h1 h2 hR e
  rw [ite_self] at h
  exact ⟨h.weak (by omega) (by omega) (fun _ => trivial) (fun w => absurd hk w) hE, fun j _ => rfl⟩
theorem act_45 (h1 : 0 ≤ (I 0).toInt) (h2 : (I 0).toInt ≤ 4) (hR : opR b B (Y 4).2.1 True (fun M _ r => r - 100000000 = M 9 - (Y 4).2.1 9) f d) (e : chg Y S q V z U y I f = (r, (Y', I'))) (hk : upF x 12 = 4 ∨ upF x 12 = 5) : actP b B Y I d x r Y' I' d := by
  refine act_m h1 h2 hR e ?_ (fun M G' r w => ⟨fun k6 => ?_, fun _ => w⟩)
  · rcases hk with w | w <;> (rw [w]; unfold mvK; decide)
  · rcases hk with w | w <;> (rw [w] at k6; exact absurd k6 (by decide))
theorem act_6 (h1 : 0 ≤ (I 0).toInt) (h2 : (I 0).toInt ≤ 4) (hR : opR b B (Y 4).2.1 True (fun M G' r => r = 1 + upF (x >>> ((8 : Int32) &&& 31)) 3 ∨ sp_X4_numberOfBest M G' 0 = -4) f d) (e : chg Y S q V z U y I f = (r, (Y', I'))) (hk : upF x 12 = 6) : actP b B Y I d x r Y' I' d := by
  refine act_m h1 h2 hR e ?_ (fun M G' r w => ⟨fun _ => w, fun k => ?_⟩)
  · rw [hk]; unfold mvK; decide
  · rw [hk] at k
    rcases k with k | k <;> exact absurd k (by decide)
theorem act_d (h1 : 0 ≤ (I 0).toInt) (h2 : (I 0).toInt ≤ 4) {i : Nat} {u v : Int32} (hi : gK x ((Y 4).2.1 0) = i) (hR : opR b (B + 5000) (Y 4).2.1 False tru f (upd d i (d i + u))) (hr : ¬ f.1 < 0 → 0 < f.1) (e : chg Y S q V z U y I f = (r, (Y', I'))) (hk : ¬ mvK (upF x 12)) (hv : v = if r ≤ 0 then 0 else u) : actP b B Y I d x r Y' I' (upd d i (d i + v)) := by
  have h := act_c (d := d) h1 h2 hR e
  have e1 : r = f.1 := by
    have w := (chg_x (S := S) (q := q) (V := V) (z := z) (U := U) (y := y) (d := d) h1 h2 hR).2
    rw [e] at w
    exact w
  have ed : upd d i (d i + v) = if r < 0 then d else upd d i (d i + u) := by
    by_cases c : r < 0
    · rw [if_pos c, hv, if_pos (by rw [le_toInt]; rw [lt_toInt] at c; omega), Int32.add_zero]
      exact upd_id
    · have p : 0 < r := by rw [e1] at c ⊢; exact hr c
      rw [if_neg c, hv, if_neg (by rw [lt_toInt] at p; rw [le_toInt]; omega)]
  rw [ed]
  refine ⟨h.weak (by omega) (by omega) (fun w => absurd w hk) (fun _ w => w) (fun M G' r _ => ⟨fun w => absurd ?_ hk, fun w => absurd ?_ hk⟩), fun j hj => ?_⟩
  · rw [w]; unfold mvK; decide
  · rcases w with w | w <;> (rw [w]; unfold mvK; decide)
  · rw [← ed]; rw [hi] at hj; exact pk_un hj
theorem nmv {k : Int32} (h4 : ¬ k = 4) (h5 : ¬ k = 5) (h6 : ¬ k = 6) : ¬ mvK k := by
  rintro ⟨a, c⟩
  have t4 := lv_neT h4 (a := 4) (by decide)
  have t5 := lv_neT h5 (a := 5) (by decide)
  have t6 := lv_neT h6 (a := 6) (by decide)
  rw [lt_toInt, show (3 : Int32).toInt = 3 from by decide] at a
  rw [lt_toInt, show (7 : Int32).toInt = 7 from by decide] at c
  omega
end AX
