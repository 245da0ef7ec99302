/-! what the model's writing methods leave alone -/
theorem zu_zu {Z : Nat → Nat → Int32} {c k : Nat} {x y : Int32} : zu (zu Z c k x) c k y = zu Z c k y := by
  funext d j
  by_cases hd : d = c
  · subst hd
    rw [zu_s, zu_s, zu_s]
    by_cases hj : j = k
    · subst hj; rw [pk_us, pk_us]
    · rw [pk_un hj, pk_un hj, pk_un hj]
  · rw [zu_n hd, zu_n hd, zu_n hd]
theorem zu_id {Z : Nat → Nat → Int32} {c k : Nat} : zu Z c k (Z c k) = Z := by
  funext d j
  by_cases hd : d = c
  · subst hd
    rw [zu_s]
    by_cases hj : j = k
    · subst hj; exact pk_us
    · exact pk_un hj
  · exact congrFun (zu_n hd) j
theorem zq {Z : Nat → Nat → Int32} {c d k j : Nat} {x : Int32} (h : d ≠ c ∨ j ≠ k) : zu Z c k x d j = Z d j := by
  by_cases hd : d = c
  · subst hd
    rw [zu_s]
    exact pk_un (h.resolve_left (fun q => q rfl))
  · exact congrFun (zu_n hd) j
theorem zqs {Z : Nat → Nat → Int32} {c k : Nat} {x : Int32} : zu Z c k x c k = x := by rw [zu_s]; exact pk_us
/-- copying into the row of states changes that row alone -/
theorem cp12_q {N : Nat → Int32} {x2 x4 : Int32} {c : Nat} (hc : c ≠ 1) : ∀ (n : Nat) (v : Int32) (Z : Nat → Nat → Int32), lp3_X6_copies12 N x2 x4 n v Z c = Z c := by
  intro n
  induction n with
  | zero => intro v Z; rfl
  | succ n ih =>
    intro v Z
    rw [lp3_X6_copies12_s]
    by_cases h : (236 : Int32) ≤ v
    · rw [if_pos h]
    · rw [if_neg h]
      exact (ih _ _).trans (zu_n hc)
theorem cp13_q {N : Nat → Int32} {x2 x4 : Int32} {c : Nat} (hc : c ≠ 2) : ∀ (n : Nat) (v : Int32) (Z : Nat → Nat → Int32), lp3_X6_copies13 N x2 x4 n v Z c = Z c := by
  intro n
  induction n with
  | zero => intro v Z; rfl
  | succ n ih =>
    intro v Z
    rw [lp3_X6_copies13_s]
    by_cases h : (236 : Int32) ≤ v
    · rw [if_pos h]
    · rw [if_neg h]
      exact (ih _ _).trans (zu_n hc)
theorem rcq' {N : Nat → Int32} {c k : Nat} (h : c ≠ 1) (h2 : c ≠ 0 ∨ k ≠ 0) : ∀ (n : Nat) (v : Int32) (Z : Nat → Nat → Int32), lp10_X6_records N n v Z c k = Z c k := by
  intro n
  induction n with
  | zero => intro v Z; rfl
  | succ n ih =>
    intro v Z
    rw [lp10_X6_records_s]
    by_cases hv : (708 : Int32) ≤ v
    · rw [if_pos hv]
      show zu _ 0 0 _ c k = Z c k
      rw [zq h2]
      show lp3_X6_copies12 _ _ _ _ _ _ c k = _
      rw [cp12_q h, zq h2]
    · rw [if_neg hv]
      show lp10_X6_records N n _ _ c k = _
      rw [ih, zq (Or.inl h)]
theorem rcq {N : Nat → Int32} {Z : Nat → Nat → Int32} {c k : Nat} (h : c ≠ 1) (h2 : c ≠ 0 ∨ k ≠ 0) : sp_X6_records N Z c k = Z c k := by
  unfold sp_X6_records
  by_cases c4 : Z 0 0 = (4 : Int32)
  · rw [if_pos c4]; exact rcq' h h2 _ _ _
  · rw [if_neg c4]
    show zu _ 0 0 _ c k = Z c k
    rw [zq h2]
    show lp3_X6_copies12 _ _ _ _ _ _ c k = _
    rw [cp12_q h]
/-- looking for the best changes three numbers alone; what it names is a good -/
def fq (Z Z' : Nat → Nat → Int32) : Prop := ∀ c k, (c ≠ 0 ∨ (k ≠ 2 ∧ k ≠ 3 ∧ k ≠ 4)) → Z' c k = Z c k
theorem fq_refl (Z : Nat → Nat → Int32) : fq Z Z := fun _ _ _ => rfl
theorem fq_trans {a b c : Nat → Nat → Int32} (h1 : fq a b) (h2 : fq b c) : fq a c := fun i k h => (h2 i k h).trans (h1 i k h)
theorem fq_zu {Z : Nat → Nat → Int32} {k : Nat} {x : Int32} (hk : k = 2 ∨ k = 3 ∨ k = 4) : fq Z (zu Z 0 k x) := by
  intro c j h
  refine zq ?_
  rcases h with h | h
  · exact Or.inl h
  · right; omega
theorem fn_in {N : Nat → Int32} {v1 : Int32} {K : Int32 → (Nat → Nat → Int32) → Nat → Nat → Int32} (Pz : (Nat → Nat → Int32) → Prop) (hK : ∀ Z, Pz Z → fq Z (K (v1 + (1 : Int32)) Z) ∧ Pz (K (v1 + (1 : Int32)) Z)) (hs : ∀ Z x y, Pz Z → Pz (zu (zu (zu Z 0 2 v1) 0 3 x) 0 4 y)) : ∀ (n : Nat) (v : Int32) (Z : Nat → Nat → Int32), Pz Z → fq Z (lp19_X6_finds N v1 K n v Z) ∧ Pz (lp19_X6_finds N v1 K n v Z) := by
  intro n
  induction n with
  | zero => intro v Z h; exact ⟨fq_refl Z, h⟩
  | succ n ih =>
    intro v Z h
    rw [lp19_X6_finds_s]
    by_cases c1 : (60 : Int32) ≤ v
    · rw [if_pos c1]; exact hK Z h
    · rw [if_neg c1]
      by_cases c2 : sp_X6_of N Z v1 (6 : Int32) = v
      · rw [if_pos c2]; exact ih _ _ h
      · rw [if_neg c2]
        by_cases c3 : sp_X6_canGo N Z v1 v = 0
        · rw [if_pos c3]; exact ih _ _ h
        · rw [if_neg c3]
          by_cases c4 : sp_X6_goWorth N Z v1 v ≤ Z 0 4
          · rw [if_pos c4]; exact ih _ _ h
          · rw [if_neg c4]
            have q := ih (v + (1 : Int32)) _ (hs Z v (sp_X6_goWorth N (zu (zu Z 0 2 v1) 0 3 v) v1 v) h)
            exact ⟨fq_trans (fq_trans (fq_trans (fq_zu (Or.inl rfl)) (fq_zu (Or.inr (Or.inl rfl)))) (fq_zu (Or.inr (Or.inr rfl)))) q.1, q.2⟩
theorem fn_out {N : Nat → Int32} (hsf : sfN N) : ∀ (n : Nat) (v : Int32) (Z : Nat → Nat → Int32), 0 ≤ v.toInt → (0 < Z 0 4 → vp_in (Z 0 2) 20) → fq Z (lp7_X6_finds N n v Z) ∧ (0 < lp7_X6_finds N n v Z 0 4 → vp_in (lp7_X6_finds N n v Z 0 2) 20) := by
  intro n
  induction n with
  | zero => intro v Z _ h; exact ⟨fq_refl Z, h⟩
  | succ n ih =>
    intro v Z hv h
    rw [lp7_X6_finds_s]
    by_cases c1 : N 0 ≤ v
    · rw [if_pos c1]; exact ⟨fq_refl Z, h⟩
    · rw [if_neg c1]
      refine fn_in (fun Z => 0 < Z 0 4 → vp_in (Z 0 2) 20) (fun Z hZ => ih _ Z (cs1 hv c1) hZ) ?_ _ _ Z h
      intro Z x y _ _
      rw [show zu (zu (zu Z 0 2 v) 0 3 x) 0 4 y 0 2 = v from by rw [zq (Or.inr (by decide)), zq (Or.inr (by decide))]; exact zqs]
      exact cnin20 hsf hv c1
theorem fnd {N : Nat → Int32} {Z : Nat → Nat → Int32} (hsf : sfN N) : fq Z (sp_X6_finds N Z) ∧ (0 < sp_X6_finds N Z 0 4 → vp_in (sp_X6_finds N Z 0 2) 20) := by
  have q := fn_out hsf 21 0 (zu Z 0 4 (0 : Int32)) (by decide) (by rw [zqs]; intro h; exact absurd h (by decide))
  exact ⟨fq_trans (fq_zu (Or.inr (Or.inr rfl))) q.1, q.2⟩
/-- goods, week and load stay -/
def k3 (N M : Nat → Int32) : Prop := M 0 = N 0 ∧ M 1 = N 1 ∧ M 3 = N 3
theorem k3_refl (N : Nat → Int32) : k3 N N := ⟨rfl, rfl, rfl⟩
theorem k3_tr {a b c : Nat → Int32} (h1 : k3 a b) (h2 : k3 b c) : k3 a c := ⟨h2.1.trans h1.1, h2.2.1.trans h1.2.1, h2.2.2.trans h1.2.2⟩
theorem k3_u {N : Nat → Int32} {k : Nat} {x : Int32} (h : 5 ≤ k) : k3 N (upd N k x) := ⟨pk_un (by omega), pk_un (by omega), pk_un (by omega)⟩
theorem k3_lays {N : Nat → Int32} {Z : Nat → Nat → Int32} {x y v : Int32} (hx : vp_in x 20) (hy : vp_in y 11) : k3 N (sp_X6_lays N Z x y v) := by
  show k3 N (upd N (ix _) v)
  rw [mo_ix hx hy]
  exact k3_u (by omega)
theorem k3_adds {N : Nat → Int32} {Z : Nat → Nat → Int32} {x v : Int32} (hx : vp_in x 8) : k3 N (sp_X6_adds N Z x v) := by
  show k3 N (upd N (ix _) _)
  rw [m5_ix hx]
  exact k3_u (by omega)
theorem k3_sf {N M : Nat → Int32} (h : k3 N M) (hs : sfN N) : sfN M := by
  unfold sfN at hs ⊢
  rw [h.1, h.2.1]
  exact hs
theorem k3_ld {N M : Nat → Int32} (h : k3 N M) (hs : ¬ N 3 = 0) : ¬ M 3 = 0 := by rw [h.2.2]; exact hs
theorem k3_brings {N : Nat → Int32} {Z : Nat → Nat → Int32} {x y : Int32} (hx : vp_in x 20) : k3 N (sp_X6_brings N Z x y).2 :=
  k3_tr (k3_tr (k3_tr (k3_lays (Z := Z) hx v11_8) (k3_lays (Z := Z) hx v11_7)) (k3_adds (Z := Z) v8_3)) (k3_adds (Z := Z) v8_1)
theorem k3_picks {N : Nat → Int32} {Z : Nat → Nat → Int32} {x y : Int32} (hx : vp_in x 20) : k3 N (sp_X6_picks N Z x y).2 := by
  have go : ∀ M : Nat → Int32, ∀ a b c d e : Int32, k3 N M → k3 N (sp_X6_adds (sp_X6_adds (sp_X6_lays (sp_X6_lays (sp_X6_lays M Z x (7 : Int32) a) Z x (9 : Int32) b) Z x (10 : Int32) c) Z (0 : Int32) d) Z (7 : Int32) e) := fun M a b c d e h =>
    k3_tr (k3_tr (k3_tr (k3_tr (k3_tr h (k3_lays (Z := Z) hx v11_7)) (k3_lays (Z := Z) hx v11_9)) (k3_lays (Z := Z) hx v11_10)) (k3_adds (Z := Z) v8_0)) (k3_adds (Z := Z) v8_7)
  unfold sp_X6_picks
  by_cases c : y ≤ sp_X6_of N Z x (7 : Int32)
  · rw [if_pos c]; exact go _ _ _ _ _ _ (k3_refl N)
  · rw [if_neg c]; exact go _ _ _ _ _ _ (k3_brings hx)
theorem k3_goes {N : Nat → Int32} {Z : Nat → Nat → Int32} {x y : Int32} (hs : sfN N) (hx : vp_in x 20) : k3 N (sp_X6_goes N Z x y).2 := by
  unfold sp_X6_goes
  have h0 : ∀ a b c : Int32, k3 N (sp_X6_adds (sp_X6_adds (sp_X6_adds N Z (2 : Int32) a) Z (4 : Int32) b) Z (6 : Int32) c) := fun a b c => k3_tr (k3_tr (k3_adds (Z := Z) v8_2) (k3_adds (Z := Z) v8_4)) (k3_adds (Z := Z) v8_6)
  by_cases c : sp_X6_goodAt N Z y = (-1 : Int32)
  · exact (congrArg (fun q : Int32 × (Nat → Int32) => k3 N q.2) (if_pos c)).mpr (k3_tr (h0 _ _ _) (k3_lays (Z := Z) hx v11_6))
  · exact (congrArg (fun q : Int32 × (Nat → Int32) => k3 N q.2) (if_neg c)).mpr (k3_tr (k3_tr (h0 _ _ _) (k3_lays (Z := Z) (ga20 hs c) v11_6)) (k3_lays (Z := Z) hx v11_6))
