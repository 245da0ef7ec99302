/-! rows copied; orders done: goods, week, load stay in their ranges -/
theorem ixI {n : Nat} (h : n < 2 ^ 31) : ix (nI n) = n := nI_clamp h
theorem cp_c {i : Nat} (h : i ≤ 236) : (236 : Int32) ≤ nI i ↔ i = 236 := by
  rw [show (236 : Int32) = nI 236 from rfl, nI_leI (by decide) (by omega)]
  omega
theorem cp31_l {Z : Nat → Nat → Int32} : ∀ (n i : Nat) (M : Nat → Int32), i ≤ 236 → 236 - i < n → ∀ j, lp3_X6_copies31 Z (0 : Int32) (0 : Int32) n (nI i) M j = if i ≤ j ∧ j < 236 then Z 2 j else M j := by
  intro n
  induction n with
  | zero => intro i M _ h; omega
  | succ n ih =>
    intro i M hi hn j
    rw [lp3_X6_copies31_s]
    by_cases c : i = 236
    · rw [if_pos ((cp_c hi).mpr c), if_neg (by omega)]
    · rw [if_neg (fun q => c ((cp_c hi).mp q))]
      have e : (0 : Int32) + nI i = nI i := by rw [show (0 : Int32) = nI 0 from rfl, nI_add, Nat.zero_add]
      have q := ih (i + 1) (upd M (ix ((0 : Int32) + nI i)) (Z 2 (ix ((0 : Int32) + nI i)))) (by omega) (by omega) j
      rw [nI_succ] at q
      refine q.trans ?_
      rw [e, ixI (by omega)]
      by_cases h1 : i + 1 ≤ j ∧ j < 236
      · rw [if_pos h1, if_pos ⟨by omega, h1.2⟩]
      · rw [if_neg h1]
        by_cases h2 : j = i
        · subst h2; rw [if_pos ⟨Nat.le_refl _, by omega⟩]; exact pk_us
        · rw [if_neg (by omega)]; exact pk_un h2
theorem cp21_l {Z : Nat → Nat → Int32} {m : Nat} (hm : m ≤ 708) : ∀ (n i : Nat) (M : Nat → Int32), i ≤ 236 → 236 - i < n → ∀ j, lp3_X6_copies21 Z (nI m) (0 : Int32) n (nI i) M j = if i ≤ j ∧ j < 236 then Z 1 (m + j) else M j := by
  intro n
  induction n with
  | zero => intro i M _ h; omega
  | succ n ih =>
    intro i M hi hn j
    rw [lp3_X6_copies21_s]
    by_cases c : i = 236
    · rw [if_pos ((cp_c hi).mpr c), if_neg (by omega)]
    · rw [if_neg (fun q => c ((cp_c hi).mp q))]
      have e : (0 : Int32) + nI i = nI i := by rw [show (0 : Int32) = nI 0 from rfl, nI_add, Nat.zero_add]
      have q := ih (i + 1) (upd M (ix ((0 : Int32) + nI i)) (Z 1 (ix (nI m + nI i)))) (by omega) (by omega) j
      rw [nI_succ] at q
      refine q.trans ?_
      rw [e, nI_add, ixI (by omega), ixI (by omega)]
      by_cases h1 : i + 1 ≤ j ∧ j < 236
      · rw [if_pos h1, if_pos ⟨by omega, h1.2⟩]
      · rw [if_neg h1]
        by_cases h2 : j = i
        · subst h2; rw [if_pos ⟨Nat.le_refl _, by omega⟩]; exact pk_us
        · rw [if_neg (by omega)]; exact pk_un h2
theorem cp12_l {N : Nat → Int32} {m : Nat} (hm : m ≤ 708) : ∀ (n i : Nat) (Z : Nat → Nat → Int32), i ≤ 236 → 236 - i < n → ∀ j, lp3_X6_copies12 N (0 : Int32) (nI m) n (nI i) Z 1 j = if m + i ≤ j ∧ j < m + 236 then N (j - m) else Z 1 j := by
  intro n
  induction n with
  | zero => intro i M _ h; omega
  | succ n ih =>
    intro i Z hi hn j
    rw [lp3_X6_copies12_s]
    by_cases c : i = 236
    · rw [if_pos ((cp_c hi).mpr c), if_neg (by omega)]
    · rw [if_neg (fun q => c ((cp_c hi).mp q))]
      have e : (0 : Int32) + nI i = nI i := by rw [show (0 : Int32) = nI 0 from rfl, nI_add, Nat.zero_add]
      have q := ih (i + 1) (zu Z 1 (ix (nI m + nI i)) (N (ix ((0 : Int32) + nI i)))) (by omega) (by omega) j
      rw [nI_succ] at q
      refine q.trans ?_
      rw [e, nI_add, ixI (by omega), ixI (by omega), zu_s]
      by_cases h1 : m + (i + 1) ≤ j ∧ j < m + 236
      · rw [if_pos h1, if_pos ⟨by omega, h1.2⟩]
      · rw [if_neg h1]
        by_cases h2 : j = m + i
        · subst h2; rw [if_pos ⟨Nat.le_refl _, by omega⟩, Nat.add_sub_cancel_left]; exact pk_us
        · rw [if_neg (by omega)]; exact pk_un h2
theorem cp13_l {N : Nat → Int32} : ∀ (n i : Nat) (Z : Nat → Nat → Int32), i ≤ 236 → 236 - i < n → ∀ j, lp3_X6_copies13 N (0 : Int32) (0 : Int32) n (nI i) Z 2 j = if i ≤ j ∧ j < 236 then N j else Z 2 j := by
  intro n
  induction n with
  | zero => intro i M _ h; omega
  | succ n ih =>
    intro i Z hi hn j
    rw [lp3_X6_copies13_s]
    by_cases c : i = 236
    · rw [if_pos ((cp_c hi).mpr c), if_neg (by omega)]
    · rw [if_neg (fun q => c ((cp_c hi).mp q))]
      have e : (0 : Int32) + nI i = nI i := by rw [show (0 : Int32) = nI 0 from rfl, nI_add, Nat.zero_add]
      have q := ih (i + 1) (zu Z 2 (ix ((0 : Int32) + nI i)) (N (ix ((0 : Int32) + nI i)))) (by omega) (by omega) j
      rw [nI_succ] at q
      refine q.trans ?_
      rw [e, ixI (by omega), zu_s]
      by_cases h1 : i + 1 ≤ j ∧ j < 236
      · rw [if_pos h1, if_pos ⟨by omega, h1.2⟩]
      · rw [if_neg h1]
        by_cases h2 : j = i
        · subst h2; rw [if_pos ⟨Nat.le_refl _, by omega⟩]; exact pk_us
        · rw [if_neg (by omega)]; exact pk_un h2
theorem cp31 {N : Nat → Int32} {Z : Nat → Nat → Int32} {j : Nat} : sp_X6_copies31 N Z (0 : Int32) (0 : Int32) j = if j < 236 then Z 2 j else N j := by
  have q := cp31_l (Z := Z) 237 0 N (by omega) (by omega) j
  refine Eq.trans q ?_
  by_cases h : j < 236
  · rw [if_pos ⟨by omega, h⟩, if_pos h]
  · rw [if_neg (by omega), if_neg h]
theorem cp13 {N : Nat → Int32} {Z : Nat → Nat → Int32} {j : Nat} : sp_X6_copies13 N Z (0 : Int32) (0 : Int32) 2 j = if j < 236 then N j else Z 2 j := by
  have q := cp13_l (N := N) 237 0 Z (by omega) (by omega) j
  refine Eq.trans q ?_
  by_cases h : j < 236
  · rw [if_pos ⟨by omega, h⟩, if_pos h]
  · rw [if_neg (by omega), if_neg h]
theorem cp13_c {N : Nat → Int32} {Z : Nat → Nat → Int32} {x y : Int32} {c : Nat} (h : c ≠ 2) : sp_X6_copies13 N Z x y c = Z c := cp13_q h _ _ _
theorem ty_cp13 {N : Nat → Int32} {Z : Nat → Nat → Int32} {x y : Int32} (h : tyZ Z) : tyZ (sp_X6_copies13 N Z x y) := by
  unfold tyZ at h ⊢
  rw [cp13_c (by decide)]
  exact h
theorem ends_l {Z : Nat → Nat → Int32} {w s : Int32} (hs : vp_in s 4) : ∀ (n : Nat) (v : Int32) (M : Nat → Int32), sfN M → M 1 < (1000 : Int32) → 0 ≤ v.toInt → (M 0).toInt - v.toInt < (n : Int) → sfN (lp13_X6_ends Z n v w s M) ∧ lp13_X6_ends Z n v w s M 3 = M 3 := by
  intro n
  induction n with
  | zero => intro v M h _ _ _; exact ⟨h, rfl⟩
  | succ n ih =>
    intro v M h hw h0 hm
    rw [lp13_X6_ends_s]
    by_cases c : M 0 ≤ v
    · rw [if_pos c]
      refine ⟨sf_adds v8_5 (sf_wk h hw), ?_⟩
      exact ((k3_adds (Z := Z) v8_5).2.2).trans (pk_un (by decide))
    · rw [if_neg c]
      have hv := cnin20 h h0 c
      have go : ∀ q : Int32, sfN (lp13_X6_ends Z n (v + (1 : Int32)) w s (sp_X6_lays (sp_X6_lays M Z v ((2 : Int32) + s) q) Z v (9 : Int32) (0 : Int32))) ∧ lp13_X6_ends Z n (v + (1 : Int32)) w s (sp_X6_lays (sp_X6_lays M Z v ((2 : Int32) + s) q) Z v (9 : Int32) (0 : Int32)) 3 = M 3 := by
        intro q
        have k := k3_tr (k3_lays (N := M) (Z := Z) (v := q) hv (w2 hs)) (k3_lays (Z := Z) (v := (0 : Int32)) hv v11_9)
        obtain ⟨a1, a2⟩ := ih (v + (1 : Int32)) _ (k3_sf k h) (by rw [k.2.1]; exact hw) (cs1 h0 c) (by rw [k.1]; exact csm c hm)
        exact ⟨a1, a2.trans k.2.2⟩
      by_cases d : (((3 : Int32) * (sp_X6_of M Z v ((2 : Int32) + s))) + (sp_X6_of M Z v (9 : Int32))) / (4 : Int32) ≤ (999 : Int32)
      · rw [if_pos d]; exact go _
      · rw [if_neg d]; exact go _
theorem ends_k {N : Nat → Int32} {Z : Nat → Nat → Int32} (hs : sfN N) (hw : N 1 < (1000 : Int32)) : sfN (sp_X6_ends N Z) ∧ sp_X6_ends N Z 3 = N 3 := ends_l (s46 hs) 21 0 N hs hw (by decide) (cnm hs)
theorem canW {N : Nat → Int32} {Z : Nat → Nat → Int32} (h : ¬ sp_X6_can N Z = 0) (h1 : ¬ Z 0 6 = (109 : Int32)) (h2 : ¬ Z 0 6 = (112 : Int32)) (h3 : ¬ Z 0 6 = (114 : Int32)) (h4 : ¬ Z 0 6 = (120 : Int32)) : N 1 < (1000 : Int32) := by
  unfold sp_X6_can at h
  rw [if_neg h1, if_neg h2, if_neg h3, if_neg h4] at h
  by_cases c : (1000 : Int32) ≤ N 1
  · rw [if_pos c] at h; exact absurd rfl h
  · rw [le_toInt] at c; rw [lt_toInt]; omega
