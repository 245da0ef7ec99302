/-! PURE: what class and model read of a row, in natural numbers -/
theorem le_lt {x a b : Int32} (h : b.toInt = a.toInt + 1) : a < x ↔ b ≤ x := by rw [lt_toInt, le_toInt]; omega
/-- x is a good -/
def isg (N : Nat → Int32) (x : Int32) : Prop := ∃ i : Nat, (i : Int) < (N 0).toInt ∧ x = nI i
/-- x is a slot -/
def iss (x : Int32) : Prop := ∃ s : Nat, s < 60 ∧ x = nI s
theorem n20 {N : Nat → Int32} {i : Nat} (hs : sfN N) (h : (i : Int) < (N 0).toInt) : i < 20 := by have := hs.2.1; omega
theorem tI {i : Nat} (h : i < 1000) : (nI i).toInt = (i : Int) := nI_toInt (by omega)
theorem xI {i : Nat} (h : i < 1000) : ix (nI i) = i := ixI (by omega)
theorem nI_inj {i j : Nat} (hi : i < 1000) (hj : j < 1000) (h : nI i = nI j) : i = j := (nI_eq (by omega) (by omega)).mp h
theorem nI_nm1 {i : Nat} (h : i < 1000) : ¬ nI i = (-1 : Int32) := by
  intro e
  have := congrArg Int32.toInt e
  rw [tI h, show (-1 : Int32).toInt = -1 from by decide] at this
  omega
theorem g4 {N G : Nat → Int32} {x : Int32} (hs : sfN N) : sp_X4_isGood N G x = 0 ↔ ¬ isg N x := by
  unfold sp_X4_isGood isg
  constructor
  · intro h h2
    obtain ⟨i, hi, e⟩ := h2
    subst e
    have h20 := n20 hs hi
    rw [if_neg (nI_pos (by omega)), if_neg (by rw [le_toInt, tI (by omega)]; omega)] at h
    exact absurd h (by decide)
  · intro h
    by_cases c : x < 0
    · rw [if_pos c]
    · rw [if_neg c]
      by_cases d : N 0 ≤ x
      · rw [if_pos d]
      · obtain ⟨j, hj, e⟩ := nI_of c
        exact absurd ⟨j, by rw [le_toInt, e, nI_toInt hj] at d; omega, e⟩ h
theorem g6 {N : Nat → Int32} {Z : Nat → Nat → Int32} {x : Int32} (hs : sfN N) : sp_X6_isGood N Z x = 0 ↔ ¬ isg N x := by
  unfold sp_X6_isGood sp_X6_in isg
  constructor
  · intro h h2
    obtain ⟨i, hi, e⟩ := h2
    subst e
    have h20 := n20 hs hi
    rw [if_neg (nI_pos (by omega)), if_neg (by rw [lt_toInt, tI (by omega), sub_toInt1 hs.1]; omega)] at h
    exact absurd h (by decide)
  · intro h
    by_cases c : x < 0
    · rw [if_pos c]
    · rw [if_neg c]
      by_cases d : N 0 - (1 : Int32) < x
      · rw [if_pos d]
      · obtain ⟨j, hj, e⟩ := nI_of c
        exact absurd ⟨j, by rw [lt_toInt, e, nI_toInt hj, sub_toInt1 hs.1] at d; omega, e⟩ h
theorem z2 {x : Int32} : sp_X2_isSlot x = 0 ↔ ¬ iss x := by
  unfold sp_X2_isSlot iss
  constructor
  · intro h h2
    obtain ⟨i, hi, e⟩ := h2
    subst e
    rw [if_neg (nI_pos (by omega)), if_neg (by rw [le_toInt, tI (by omega), i60]; omega)] at h
    exact absurd h (by decide)
  · intro h
    by_cases c : x < 0
    · rw [if_pos c]
    · rw [if_neg c]
      by_cases d : (60 : Int32) ≤ x
      · rw [if_pos d]
      · obtain ⟨j, hj, e⟩ := nI_of c
        exact absurd ⟨j, by rw [le_toInt, e, nI_toInt hj, i60] at d; omega, e⟩ h
theorem z6 {x : Int32} : sp_X6_isSlot x = 0 ↔ ¬ iss x := by
  unfold sp_X6_isSlot sp_X6_in iss
  constructor
  · intro h h2
    obtain ⟨i, hi, e⟩ := h2
    subst e
    rw [if_neg (nI_pos (by omega)), if_neg (by rw [lt_toInt, tI (by omega), show (59 : Int32).toInt = 59 from by decide]; omega)] at h
    exact absurd h (by decide)
  · intro h
    by_cases c : x < 0
    · rw [if_pos c]
    · rw [if_neg c]
      by_cases d : (59 : Int32) < x
      · rw [if_pos d]
      · obtain ⟨j, hj, e⟩ := nI_of c
        exact absurd ⟨j, by rw [lt_toInt, e, nI_toInt hj, show (59 : Int32).toInt = 59 from by decide] at d; omega, e⟩ h
theorem q46 {x : Int32} : sp_X5_isSeason x = 0 ↔ ¬ ∃ s : Nat, s < 4 ∧ x = nI s := by
  unfold sp_X5_isSeason
  constructor
  · intro h h2
    obtain ⟨i, hi, e⟩ := h2
    subst e
    rw [if_neg (nI_pos (by omega)), if_neg (by rw [le_toInt, tI (by omega), show (4 : Int32).toInt = 4 from by decide]; omega)] at h
    exact absurd h (by decide)
  · intro h
    by_cases c : x < 0
    · rw [if_pos c]
    · rw [if_neg c]
      by_cases d : (4 : Int32) ≤ x
      · rw [if_pos d]
      · obtain ⟨j, hj, e⟩ := nI_of c
        exact absurd ⟨j, by rw [le_toInt, e, nI_toInt hj, show (4 : Int32).toInt = 4 from by decide] at d; omega, e⟩ h
theorem in_iff {x a b : Int32} : ¬ sp_X6_in x a b = 0 ↔ a.toInt ≤ x.toInt ∧ x.toInt ≤ b.toInt := ⟨min_of, fun h q => min_no q h⟩
theorem is_in {x a b : Int32} : sp_X5_isIn x a b = sp_X6_in x a b := rfl
theorem q6 {x : Int32} : sp_X6_in x 0 3 = 0 ↔ ¬ ∃ s : Nat, s < 4 ∧ x = nI s := by
  constructor
  · intro h h2
    obtain ⟨i, hi, e⟩ := h2
    subst e
    exact in_iff.mpr (by rw [tI (by omega), i0, show (3 : Int32).toInt = 3 from by decide]; omega) h
  · intro h
    refine Decidable.byContradiction fun q => h ?_
    obtain ⟨j, hj, e⟩ := vp_in_of (min4 q) (by decide)
    exact ⟨j, hj, e⟩
section PL
variable {N G : Nat → Int32} {Z : Nat → Nat → Int32} {i s : Nat} {v : Int32}
theorem ofI {w : Nat} (hi : i < 20) (hw : w < 11) : sp_X6_of N Z (nI i) (nI w) = N (16 + 11 * i + w) := by
  have h := congrArg N (mo_ix (vp_in_nI hi (by decide)) (vp_in_nI hw (by decide)))
  rw [xI (by omega), xI (by omega)] at h
  exact h
theorem lyI {w : Nat} (hi : i < 20) (hw : w < 11) : sp_X6_lays N Z (nI i) (nI w) v = upd N (16 + 11 * i + w) v := by
  have h := congrArg (fun k => upd N k v) (mo_ix (vp_in_nI hi (by decide)) (vp_in_nI hw (by decide)))
  rw [xI (by omega), xI (by omega)] at h
  exact h
theorem oa {w : Nat} (k : Nat) (hk : 16 + 11 * i + w = k) (hi : i < 20) (hw : w < 11) : sp_X6_of N Z (nI i) (nI w) = N k := hk ▸ ofI hi hw
theorem la {w : Nat} (k : Nat) (hk : 16 + 11 * i + w = k) (hi : i < 20) (hw : w < 11) : sp_X6_lays N Z (nI i) (nI w) v = upd N k v := hk ▸ lyI hi hw
theorem o0 (hi : i < 20) : sp_X6_of N Z (nI i) (0 : Int32) = N (16 + 11 * i) := oa (w := 0) _ (by omega) hi (by omega)
theorem o1 (hi : i < 20) : sp_X6_of N Z (nI i) (1 : Int32) = N (17 + 11 * i) := oa (w := 1) _ (by omega) hi (by omega)
theorem o6 (hi : i < 20) : sp_X6_of N Z (nI i) (6 : Int32) = N (22 + 11 * i) := oa (w := 6) _ (by omega) hi (by omega)
theorem o7 (hi : i < 20) : sp_X6_of N Z (nI i) (7 : Int32) = N (23 + 11 * i) := oa (w := 7) _ (by omega) hi (by omega)
theorem o8 (hi : i < 20) : sp_X6_of N Z (nI i) (8 : Int32) = N (24 + 11 * i) := oa (w := 8) _ (by omega) hi (by omega)
theorem o9 (hi : i < 20) : sp_X6_of N Z (nI i) (9 : Int32) = N (25 + 11 * i) := oa (w := 9) _ (by omega) hi (by omega)
theorem o10 (hi : i < 20) : sp_X6_of N Z (nI i) (10 : Int32) = N (26 + 11 * i) := oa (w := 10) _ (by omega) hi (by omega)
theorem od (hi : i < 20) (hs : s < 4) : sp_X6_of N Z (nI i) ((2 : Int32) + nI s) = N (18 + 11 * i + s) := by
  rw [show (2 : Int32) = nI 2 from rfl, nI_add]
  exact oa _ (by omega) hi (by omega)
theorem l0 (hi : i < 20) : sp_X6_lays N Z (nI i) (0 : Int32) v = upd N (16 + 11 * i) v := la (w := 0) _ (by omega) hi (by omega)
theorem l1 (hi : i < 20) : sp_X6_lays N Z (nI i) (1 : Int32) v = upd N (17 + 11 * i) v := la (w := 1) _ (by omega) hi (by omega)
theorem l6 (hi : i < 20) : sp_X6_lays N Z (nI i) (6 : Int32) v = upd N (22 + 11 * i) v := la (w := 6) _ (by omega) hi (by omega)
theorem l7 (hi : i < 20) : sp_X6_lays N Z (nI i) (7 : Int32) v = upd N (23 + 11 * i) v := la (w := 7) _ (by omega) hi (by omega)
theorem l8 (hi : i < 20) : sp_X6_lays N Z (nI i) (8 : Int32) v = upd N (24 + 11 * i) v := la (w := 8) _ (by omega) hi (by omega)
theorem l9 (hi : i < 20) : sp_X6_lays N Z (nI i) (9 : Int32) v = upd N (25 + 11 * i) v := la (w := 9) _ (by omega) hi (by omega)
theorem l10 (hi : i < 20) : sp_X6_lays N Z (nI i) (10 : Int32) v = upd N (26 + 11 * i) v := la (w := 10) _ (by omega) hi (by omega)
theorem ld (hi : i < 20) (hs : s < 4) : sp_X6_lays N Z (nI i) ((2 : Int32) + nI s) v = upd N (18 + 11 * i + s) v := by
  rw [show (2 : Int32) = nI 2 from rfl, nI_add]
  exact la _ (by omega) hi (by omega)
theorem a0 : sp_X6_adds N Z (0 : Int32) v = upd N 5 (N 5 + v) := rfl
theorem a1 : sp_X6_adds N Z (1 : Int32) v = upd N 6 (N 6 + v) := rfl
theorem a2 : sp_X6_adds N Z (2 : Int32) v = upd N 7 (N 7 + v) := rfl
theorem a3 : sp_X6_adds N Z (3 : Int32) v = upd N 8 (N 8 + v) := rfl
theorem a4 : sp_X6_adds N Z (4 : Int32) v = upd N 9 (N 9 + v) := rfl
theorem a5 : sp_X6_adds N Z (5 : Int32) v = upd N 10 (N 10 + v) := rfl
theorem a6 : sp_X6_adds N Z (6 : Int32) v = upd N 11 (N 11 + v) := rfl
theorem a7 : sp_X6_adds N Z (7 : Int32) v = upd N 12 (N 12 + v) := rfl
/-- the place of a demand in the class's row -/
theorem dix (hi : i < 20) (hs : s < 4) : 18 + 11 * ((ix ((nI i * (4 : Int32)) + nI s)) / 4) + (ix ((nI i * (4 : Int32)) + nI s)) % 4 = 18 + 11 * i + s := by
  rw [show (4 : Int32) = nI 4 from rfl, pk_mul, nI_add, xI (by omega)]
  omega
theorem d4 (hi : i < 20) (hs : s < 4) : sp_X4_demandOf N G (nI i) (nI s) = N (18 + 11 * i + s) := congrArg N (dix hi hs)
end PL
theorem wkT' : ∀ s, s < 60 → sp_X2_walkTo (nI s) = sp_X6_walk (nI s) := by decide +kernel
theorem hvT' : ∀ s, s < 60 → sp_X2_heaviestAt (nI s) = sp_X6_most (nI s - nI s / (6 : Int32) * (6 : Int32)) := by decide +kernel
theorem wk_lo : ∀ s, s < 60 → 4 ≤ (sp_X6_walk (nI s)).toInt ∧ (sp_X6_walk (nI s)).toInt ≤ 49 := by decide +kernel
theorem way' : ∀ a, a < 60 → ∀ b, b < 60 → sp_X2_wayBetween (nI a) (nI b) = (if nI a / (6 : Int32) ≤ nI b / (6 : Int32) then (4 : Int32) * (nI b / (6 : Int32) - nI a / (6 : Int32)) + sp_X6_reach (nI a) + sp_X6_reach (nI b) else (4 : Int32) * (nI a / (6 : Int32) - nI b / (6 : Int32)) + sp_X6_reach (nI a) + sp_X6_reach (nI b)) ∧ sp_X2_wayBetween (nI b) (nI a) = sp_X2_wayBetween (nI a) (nI b) := by decide +kernel
section PM
variable {N G : Nat → Int32} {Z : Nat → Nat → Int32} {i s : Nat}
theorem pbears (hi : i < 20) (hs : s < 60) : sp_X4_bears N G (nI s) (nI i) = sp_X6_mayBe N Z (nI i) (nI s) := by
  unfold sp_X4_bears sp_X6_mayBe
  rw [o0 hi, xI (by omega), hvT' s hs]
/-- the present season -/
def sea (N : Nat → Int32) : Nat := ix (N 1) / 13 % 4
theorem sea_lt : sea N < 4 := Nat.mod_lt _ (by decide)
theorem psea (hs : sfN N) : sp_X6_season N Z = nI (sea N) := by
  unfold sp_X6_season sea
  obtain ⟨k, hk, e⟩ := nI_ofI hs.2.2.1
  have hk2 : k < 1001 := by have := hs.2.2.2; rw [e, nI_toInt hk] at this; omega
  rw [e, show (13 : Int32) = nI 13 from rfl, show (4 : Int32) = nI 4 from rfl, pk_div hk (by decide) (by decide), pk_rem (by omega) (by decide) (by decide), ixI hk]
theorem psea4 (hs : sfN N) : sp_X4_presentSeason N G = nI (sea N) := psea (Z := fun _ _ => 0) hs
end PM
