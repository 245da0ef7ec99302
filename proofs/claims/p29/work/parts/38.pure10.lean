/-! what looking at a text leaves -/
def RA (Z Y : Nat → Nat → Int32) : Prop := ∀ c k, (c ≠ 0 ∨ (k < 5 ∨ 10 < k)) → Y c k = Z c k
theorem RA.rf {Z : Nat → Nat → Int32} : RA Z Z := fun _ _ _ => rfl
theorem RA.tr {a b c : Nat → Nat → Int32} (h1 : RA a b) (h2 : RA b c) : RA a c := fun i k h => (h2 i k h).trans (h1 i k h)
theorem RA_zu {Z : Nat → Nat → Int32} {k : Nat} {x : Int32} (h1 : 5 ≤ k) (h2 : k ≤ 10) : RA Z (zu Z 0 k x) := by
  intro c j h
  refine zq ?_
  rcases h with h | h
  · exact Or.inl h
  · right; omega
theorem RA_of {Z Y : Nat → Nat → Int32} (h : RQ Z Y) : RA Z Y := fun c k q => h c k (q.imp_right (fun q => by omega))
theorem da_l : ∀ (n : Nat) (v : Int32) (M : Nat → Int32) (Z : Nat → Nat → Int32), sfN M → tyZ Z → 0 ≤ v.toInt → sfN (lp7_X6_doesAll n v M Z).2.1 ∧ (lp7_X6_doesAll n v M Z).2.1 3 = M 3 ∧ RA Z (lp7_X6_doesAll n v M Z).2.2 := by
  intro n
  induction n with
  | zero => intro v M Z h _ _; exact ⟨h, rfl, RA.rf⟩
  | succ n ih =>
    intro v M Z h hty h0
    rw [lp7_X6_doesAll_s]
    by_cases c : Z 0 1 ≤ v
    · rw [if_pos c]; exact ⟨h, rfl, RA.rf⟩
    · rw [if_neg c]
      have ty1 : tyZ (zu Z 0 10 v) := ty_zu (by decide) hty
      have q := rd_p (N := M) ty1 h0 (da_60 hty c)
      have qa : RA Z (sp_X6_reads M (zu Z 0 10 v) v).2 := (RA_zu (by omega) (by omega)).tr (RA_of q.1)
      by_cases c2 : (sp_X6_reads M (zu Z 0 10 v) v).1 = 0
      · exact (congrArg (fun r : Int32 × ((Nat → Int32) × (Nat → Nat → Int32)) => sfN r.2.1 ∧ r.2.1 3 = M 3 ∧ RA Z r.2.2) (if_pos c2)).mpr ⟨h, rfl, qa⟩
      · refine (congrArg (fun r : Int32 × ((Nat → Int32) × (Nat → Nat → Int32)) => sfN r.2.1 ∧ r.2.1 3 = M 3 ∧ RA Z r.2.2) (if_neg c2)).mpr ?_
        by_cases c3 : sp_X6_isThere M (sp_X6_reads M (zu Z 0 10 v) v).2 = 0
        · exact (congrArg (fun r : Int32 × ((Nat → Int32) × (Nat → Nat → Int32)) => sfN r.2.1 ∧ r.2.1 3 = M 3 ∧ RA Z r.2.2) (if_pos c3)).mpr ⟨h, rfl, qa⟩
        · refine (congrArg (fun r : Int32 × ((Nat → Int32) × (Nat → Nat → Int32)) => sfN r.2.1 ∧ r.2.1 3 = M 3 ∧ RA Z r.2.2) (if_neg c3)).mpr ?_
          by_cases c4 : sp_X6_can M (sp_X6_reads M (zu Z 0 10 v) v).2 = 0
          · exact (congrArg (fun r : Int32 × ((Nat → Int32) × (Nat → Nat → Int32)) => sfN r.2.1 ∧ r.2.1 3 = M 3 ∧ RA Z r.2.2) (if_pos c4)).mpr ⟨h, rfl, qa⟩
          · refine (congrArg (fun r : Int32 × ((Nat → Int32) × (Nat → Nat → Int32)) => sfN r.2.1 ∧ r.2.1 3 = M 3 ∧ RA Z r.2.2) (if_neg c4)).mpr ?_
            have k := does_k h c3 c4
            have s := da_step (y := (sp_X6_reads M (zu Z 0 10 v) v).2 0 9 + (1 : Int32)) hty h0 c c2
            obtain ⟨a1, a2, a3⟩ := ih ((zu (sp_X6_reads M (zu Z 0 10 v) v).2 0 9 ((sp_X6_reads M (zu Z 0 10 v) v).2 0 9 + (1 : Int32))) 0 5) (sp_X6_does M (sp_X6_reads M (zu Z 0 10 v) v).2) (zu (sp_X6_reads M (zu Z 0 10 v) v).2 0 9 ((sp_X6_reads M (zu Z 0 10 v) v).2 0 9 + (1 : Int32))) k.1 s.1 s.2.1
            exact ⟨a1, a2.trans k.2, (qa.tr (RA_zu (by omega) (by omega))).tr a3⟩
theorem da_k {N : Nat → Int32} {Z : Nat → Nat → Int32} (hs : sfN N) (hty : tyZ Z) : sfN (sp_X6_doesAll N Z).2.1 ∧ (sp_X6_doesAll N Z).2.1 3 = N 3 ∧ RA Z (sp_X6_doesAll N Z).2.2 := by
  obtain ⟨a1, a2, a3⟩ := da_l 61 0 N (zu Z 0 9 (0 : Int32)) hs (ty_zu (by decide) hty) (by decide)
  exact ⟨a1, a2, (RA_zu (by omega) (by omega)).tr a3⟩
theorem ps_cp13 {N : Nat → Int32} {Z : Nat → Nat → Int32} {x y : Int32} (h : psZ Z) : psZ (sp_X6_copies13 N Z x y) := by
  unfold psZ at h ⊢
  rw [cp13_c (by decide)]
  exact h
theorem ps_RA {Z Y : Nat → Nat → Int32} (q : RA Z Y) (h : psZ Z) : psZ Y := by
  unfold psZ at h ⊢
  rw [q 0 0 (Or.inr (by omega))]
  exact h
theorem ty_RA {Z Y : Nat → Nat → Int32} (q : RA Z Y) (h : tyZ Z) : tyZ Y := by
  unfold tyZ at h ⊢
  rw [q 0 1 (Or.inr (by omega))]
  exact h
/-- the looked-at row comes back -/
theorem cp_back {N M : Nat → Int32} {Z Y : Nat → Nat → Int32} (q : RA (sp_X6_copies13 N Z (0 : Int32) (0 : Int32)) Y) {j : Nat} (hj : j < 236) : sp_X6_copies31 M Y (0 : Int32) (0 : Int32) j = N j := by
  rw [cp31, if_pos hj, q 2 j (Or.inl (by decide)), cp13, if_pos hj]
theorem sf_back {N M : Nat → Int32} (hs : sfN N) (h : ∀ j, j < 236 → M j = N j) : sfN M := by
  unfold sfN at hs ⊢
  rw [h 0 (by omega), h 1 (by omega)]
  exact hs
theorem ty_rec {N : Nat → Int32} {Z : Nat → Nat → Int32} (h : tyZ Z) : tyZ (sp_X6_records N Z) := by
  unfold tyZ at h ⊢
  rw [rcq (by decide) (Or.inr (by decide))]
  exact h
theorem un_ps {Z : Nat → Nat → Int32} (h : psZ Z) (c : ¬ Z 0 0 = 0) : 0 ≤ ((Z 0 0) - (1 : Int32)).toInt ∧ ((Z 0 0) - (1 : Int32)).toInt ≤ 3 := by
  have q := lv_neT c (a := 0) (by decide)
  obtain ⟨h1, h2⟩ := h
  rw [sub_toInt1 h1]
  omega
theorem ab1 {N : Nat → Int32} {v w : Int32} (j1 : 0 ≤ w.toInt) (j2 : w.toInt ≤ v.toInt) (c : ¬ N 0 ≤ v) (hs : sfN N) : 0 ≤ (w + (1 : Int32)).toInt := by
  rw [le_toInt] at c
  have := hs.2.1
  rw [add_toInt (by rw [show (1 : Int32).toInt = 1 from by decide]; omega) (by rw [show (1 : Int32).toInt = 1 from by decide]; omega), show (1 : Int32).toInt = 1 from by decide]
  omega
theorem ab2 {N : Nat → Int32} {v w : Int32} (j1 : 0 ≤ w.toInt) (j2 : w.toInt ≤ v.toInt) (c : ¬ N 0 ≤ v) (hs : sfN N) : (w + (1 : Int32)).toInt ≤ (v + (1 : Int32)).toInt := by
  rw [inc_toInt c]
  rw [le_toInt] at c
  have := hs.2.1
  rw [add_toInt (by rw [show (1 : Int32).toInt = 1 from by decide]; omega) (by rw [show (1 : Int32).toInt = 1 from by decide]; omega), show (1 : Int32).toInt = 1 from by decide]
  omega
theorem ab3 {N : Nat → Int32} {v w : Int32} (j2 : w.toInt ≤ v.toInt) (c : ¬ N 0 ≤ v) : w.toInt ≤ (v + (1 : Int32)).toInt := by
  rw [inc_toInt c]; omega
