/-! PURE: a good goes -/
theorem upd_comm {f : Nat → Int32} {j k : Nat} {x y : Int32} (h : j ≠ k) : upd (upd f j x) k y = upd (upd f k y) j x := by
  funext q
  unfold upd
  by_cases h1 : q = k
  · rw [if_pos h1, if_neg (fun e => h (e.symm.trans h1)), if_pos h1]
  · by_cases h2 : q = j
    · rw [if_neg h1, if_pos h2, if_pos h2]
    · rw [if_neg h1, if_neg h2, if_neg h2, if_neg h1]
theorem upd_upd {f : Nat → Int32} {k : Nat} {x y : Int32} : upd (upd f k x) k y = upd f k y := by
  funext q
  unfold upd
  by_cases h1 : q = k
  · rw [if_pos h1, if_pos h1]
  · rw [if_neg h1, if_neg h1, if_neg h1]
theorem sumI_same {f f' : Nat → Int32} : ∀ (k i : Nat), (∀ j, i ≤ j → j < i + k → f' j = f j) → sumI f' k i = sumI f k i := by
  intro k
  induction k with
  | zero => intro i _; rfl
  | succ k ih =>
    intro i h
    show f' i + sumI f' k (i + 1) = f i + sumI f k (i + 1)
    rw [h i (by omega) (by omega), ih (i + 1) (fun j h1 h2 => h j (by omega) (by omega))]
theorem ad1 {a b c d e : Int32} (h : b = c + (d - e)) : a + b = a + c + (d - e) := by rw [h, Int32.add_assoc]
theorem ad2 {a b e : Int32} : a + b = e + b + (a - e) := by
  rw [Int32.add_comm e b, Int32.add_assoc, Int32.add_comm e, Int32.sub_add_cancel, Int32.add_comm]
theorem sumI_upd {f f' : Nat → Int32} {g : Nat} (h : ∀ j, j ≠ g → f' j = f j) : ∀ (k i : Nat), i ≤ g → g < i + k → sumI f' k i = sumI f k i + (f' g - f g) := by
  intro k
  induction k with
  | zero => intro i h1 h2; exact absurd h2 (by omega)
  | succ k ih =>
    intro i h1 h2
    show f' i + sumI f' k (i + 1) = f i + sumI f k (i + 1) + (f' g - f g)
    by_cases e : i = g
    · subst e
      rw [sumI_same k (i + 1) (fun j h3 h4 => h j (by omega))]
      exact ad2
    · rw [h i e]
      exact ad1 (ih (i + 1) (by omega) (by omega))
theorem sumI_snoc {f : Nat → Int32} : ∀ (k i : Nat), sumI f (k + 1) i = sumI f k i + f (i + k) := by
  intro k
  induction k with
  | zero => intro i; show f i + 0 = 0 + f (i + 0); rw [Int32.add_zero, Int32.zero_add]; rfl
  | succ k ih =>
    intro i
    show f i + sumI f (k + 1) (i + 1) = f i + sumI f k (i + 1) + f (i + (k + 1))
    rw [ih (i + 1), Int32.add_assoc, show i + 1 + k = i + (k + 1) by omega]
section PG
variable {N N' G G' : Nat → Int32} {Z : Nat → Nat → Int32} {b : Int} {i s g f : Nat}
/-- only slots and accounts differ -/
def slq (N N' : Nat → Int32) : Prop := ∀ k, (k < 5 ∨ (16 ≤ k ∧ (k - 16) % 11 ≠ 6)) → N' k = N k
theorem slq_rf : slq N N := fun _ _ => rfl
theorem slq_u {k : Nat} {x : Int32} (hk : (5 ≤ k ∧ k < 16) ∨ (16 ≤ k ∧ (k - 16) % 11 = 6)) (h : slq N N') : slq N (upd N' k x) := by
  intro j hj
  rw [pk_un (by omega)]
  exact h j hj
theorem slq.wfg (h : slq N N') (hg : wfg b N i) (hp : N' (22 + 11 * i) = -1 ∨ ∃ s : Nat, s < 60 ∧ N' (22 + 11 * i) = nI s) : wfg b N' i := by
  refine wfg.mk ?_ ?_ ?_ hp ?_ ?_ ?_
  · rw [h _ (by omega)]; exact hg.w
  · rw [h _ (by omega)]; exact hg.c
  · intro s hs; rw [h _ (by omega)]; exact hg.d hs
  · rw [h _ (by omega), h _ (by omega)]; exact hg.u
  · rw [h _ (by omega), h _ (by omega)]; exact hg.st
  · rw [h _ (by omega)]; exact hg.k
theorem slq.wfz (h : slq N N') (hg : wfz N i) : wfz N' i := by
  obtain ⟨h1, h2, h3, h4, h5⟩ := hg
  refine ⟨fun s hs => ?_, ?_, ?_, ?_, ?_⟩
  · rw [h _ (by omega)]; exact h1 s hs
  · rw [h _ (by omega)]; exact h2
  · rw [h _ (by omega)]; exact h3
  · rw [h _ (by omega)]; exact h4
  · rw [h _ (by omega)]; exact h5
theorem slq.wf (h : slq N N') (hw : wf b N G) (hp : ∀ g : Nat, (g : Int) < (N 0).toInt → N' (22 + 11 * g) = -1 ∨ ∃ s : Nat, s < 60 ∧ N' (22 + 11 * g) = nI s) (hs : wfs N' G') (hb : wfb N') : wf b N' G' := by
  have e0 := h 0 (by omega)
  have e1 := h 1 (by omega)
  refine ⟨?_, fun g hg => ?_, fun g hg hn => ?_, ?_, hs, hb⟩
  · have := hw.sf; unfold sfN at this ⊢; rw [e0, e1]; exact this
  · rw [e0] at hg; exact h.wfg (hw.g hg) (hp g hg)
  · rw [e0] at hn; exact h.wfz (hw.z hg hn)
  · have := hw.t; unfold wft at this ⊢; rw [h 2 (by omega), h 3 (by omega), h 4 (by omega)]; exact this
theorem slq.seq (h : slq N N') : sea N' = sea N := by unfold sea; rw [h 1 (by omega)]
/-- a good's part of the weekly walk -/
theorem wkT_eq {s j : Nat} (h1 : N' (22 + 11 * j) = N (22 + 11 * j)) (h2 : N' (18 + 11 * j + s) = N (18 + 11 * j + s)) : wkT N' s j = wkT N s j := by
  unfold wkT
  rw [h1, h2]
theorem wkT_at {s j t : Nat} (ht : t < 60) (h1 : N (22 + 11 * j) = nI t) : wkT N s j = N (18 + 11 * j + s) * sp_X6_walk (nI t) := by
  unfold wkT
  rw [h1, if_neg (nI_nm1 (by omega))]
theorem wkT_no {s j : Nat} (h1 : N (22 + 11 * j) = -1) : wkT N s j = 0 := if_pos h1
/-- one good's part changes -/
theorem wkS_1 (hs : s < 4) (hsf : sfN N) (e0 : N' 0 = N 0) (hg : (g : Int) < (N 0).toInt) (h : ∀ j, j ≠ g → wkT N' s j = wkT N s j) : wkS N' s = wkS N s + (wkT N' s g - wkT N s g) := by
  unfold wkS
  rw [e0]
  exact sumI_upd h _ 0 (by omega) (by have := hsf.1; omega)
theorem wkS_0 (e0 : N' 0 = N 0) (h : ∀ j, wkT N' s j = wkT N s j) : wkS N' s = wkS N s := by
  unfold wkS
  rw [e0]
  exact sumI_same _ 0 (fun j _ _ => h j)
theorem wog_u {k : Nat} {v x y : Int32} (hk : 5 ≤ k) (hk2 : k < 16) : sp_X4_walkOfGoing (upd N k v) G x y = sp_X4_walkOfGoing N G x y := by
  unfold sp_X4_walkOfGoing sp_X4_isGood
  simp (disch := omega) only [pk_un]
theorem ig_0 {M F : Nat → Int32} {x : Int32} (h : M 0 = N 0) : sp_X4_isGood M F x = sp_X4_isGood N G x := by
  unfold sp_X4_isGood
  rw [h]
/-- the accounts of going -/
def gA (N : Nat → Int32) (w v : Int32) : Nat → Int32 := upd (upd (upd N 7 (N 7 + w)) 9 (N 9 + v)) 11 (N 11 + 1)
theorem gA_c {w v : Int32} : upd (upd (upd N 11 (N 11 + 1)) 7 (N 7 + w)) 9 (N 9 + v) = gA N w v := by
  unfold gA
  rw [upd_comm (j := 11) (k := 7) (by omega), upd_comm (j := 11) (k := 9) (by omega)]
theorem gA_q {w v : Int32} : slq N (gA N w v) := slq_u (Or.inl (by omega)) (slq_u (Or.inl (by omega)) (slq_u (Or.inl (by omega)) slq_rf))
theorem gA_s {w v : Int32} {j : Nat} (h : 16 ≤ j) : gA N w v j = N j := by
  unfold gA
  simp (disch := omega) only [pk_un]
theorem go6_free (h : wf b N G) (hi : (i : Int) < (N 0).toInt) (hss : s < 60) (hG : G s = -1) : sp_X6_goes N Z (nI i) (nI s) = (sp_X6_goSaves N Z (nI i) (nI s), upd (gA N (sp_X6_goWalk N Z (nI i) (nI s)) (sp_X6_goSaves N Z (nI i) (nI s))) (22 + 11 * i) (nI s)) := by
  have h20 := h.n20 hi
  unfold sp_X6_goes gA
  dsimp only
  rw [if_pos ((ga h.sf h.sl hss).trans hG), l6 h20, a2, a4, a6]
  simp (disch := omega) only [pk_un]
theorem go6_ex (h : wf b N G) (hi : (i : Int) < (N 0).toInt) (hss : s < 60) (hp : N (22 + 11 * i) = nI f) (hg : (g : Int) < (N 0).toInt) (hG : G s = nI g) : sp_X6_goes N Z (nI i) (nI s) = (sp_X6_goSaves N Z (nI i) (nI s), upd (upd (gA N (sp_X6_goWalk N Z (nI i) (nI s)) (sp_X6_goSaves N Z (nI i) (nI s))) (22 + 11 * g) (nI f)) (22 + 11 * i) (nI s)) := by
  have h20 := h.n20 hi
  have hg20 := h.n20 hg
  have e1 : sp_X6_goodAt N Z (nI s) = nI g := (ga h.sf h.sl hss).trans hG
  unfold sp_X6_goes gA
  dsimp only
  rw [if_neg (by rw [e1]; exact nI_nm1 (by omega)), e1, o6 h20, l6 hg20, l6 h20, a2, a4, a6]
  simp (disch := omega) only [pk_un]
  rw [hp]
theorem go4_free (h : wf b N G) (hi : (i : Int) < (N 0).toInt) (hss : s < 60) (hf : f < 60) (hp : N (22 + 11 * i) = nI f) (hG : G s = -1) : sp_X4_goTo N G (nI i) (nI s) = (sp_X6_goSaves N Z (nI i) (nI s), (upd (gA N (sp_X6_goWalk N Z (nI i) (nI s)) (sp_X6_goSaves N Z (nI i) (nI s))) (22 + 11 * i) (nI s), upd (upd G f (-1)) s (nI i))) := by
  have h20 := h.n20 hi
  have ew : sp_X4_walkOfGoing (upd N 11 (N 11 + 1)) G (nI i) (nI s) = sp_X6_goWalk N Z (nI i) (nI s) := (wog_u (by omega) (by omega)).trans (pwlk h hi hss hf hp)
  have es := psav (Z := Z) h hi hss hf hp
  unfold sp_X4_goTo sp_X4_standIn
  dsimp only
  rw [xI (show i < 1000 by omega), xI (show s < 1000 by omega), ew, es]
  simp (disch := omega) only [pk_un]
  rw [if_pos (by rw [ig_0 (N := N) (G := G) (by simp (disch := omega) only [pk_un])]; exact (pfree h.sf h.sl hss).mpr hG), hp, xI (show f < 1000 by omega), gA_c]
theorem go4_ex (h : wf b N G) (hi : (i : Int) < (N 0).toInt) (hss : s < 60) (hf : f < 60) (hp : N (22 + 11 * i) = nI f) (hg : (g : Int) < (N 0).toInt) (hG : G s = nI g) : sp_X4_goTo N G (nI i) (nI s) = (sp_X6_goSaves N Z (nI i) (nI s), (upd (upd (gA N (sp_X6_goWalk N Z (nI i) (nI s)) (sp_X6_goSaves N Z (nI i) (nI s))) (22 + 11 * g) (nI f)) (22 + 11 * i) (nI s), upd (upd (upd G f (-1)) f (nI g)) s (nI i))) := by
  have h20 := h.n20 hi
  have hg20 := h.n20 hg
  have ew : sp_X4_walkOfGoing (upd N 11 (N 11 + 1)) G (nI i) (nI s) = sp_X6_goWalk N Z (nI i) (nI s) := (wog_u (by omega) (by omega)).trans (pwlk h hi hss hf hp)
  have es := psav (Z := Z) h hi hss hf hp
  have hn : ¬ sp_X4_isGood N G (G s) = 0 := fun q => nI_nm1 (by omega) (hG.symm.trans ((pfree h.sf h.sl hss).mp q))
  unfold sp_X4_goTo sp_X4_standIn
  dsimp only
  rw [xI (show i < 1000 by omega), xI (show s < 1000 by omega), ew, es]
  simp (disch := omega) only [pk_un]
  rw [if_neg (by rw [ig_0 (N := N) (G := G) (by simp (disch := omega) only [pk_un])]; exact hn), hp, hG, xI (show f < 1000 by omega), xI (show g < 1000 by omega), gA_c]
/-- slots and goods still name each other: a move -/
theorem wfs_free (hsf : sfN N) (h : wfs N G) (hi : (i : Int) < (N 0).toInt) (hss : s < 60) (hf : f < 60) (hp : N (22 + 11 * i) = nI f) (hG : G s = -1) (e0 : N' 0 = N 0) (ei : N' (22 + 11 * i) = nI s) (eo : ∀ j, j ≠ i → N' (22 + 11 * j) = N (22 + 11 * j)) : wfs N' (upd (upd G f (-1)) s (nI i)) := by
  have hfi := h.1 i f hi hf hp
  have h20 : i < 20 := n20 hsf hi
  constructor
  · intro g t hg ht hgt
    rw [e0] at hg
    have hg20 : g < 20 := n20 hsf hg
    by_cases c : g = i
    · subst c
      rw [ei] at hgt
      have := nI_inj (by omega) (by omega) hgt
      subst this
      exact pk_us
    · rw [eo g c] at hgt
      have q := h.1 g t hg ht hgt
      have c1 : t ≠ s := fun e => by subst e; rw [hG] at q; exact nI_nm1 (by omega) q.symm
      have c2 : t ≠ f := fun e => by subst e; rw [hfi] at q; exact c (nI_inj (by omega) (by omega) q.symm)
      rw [pk_un c1, pk_un c2]
      exact q
  · intro t ht
    by_cases c1 : t = s
    · subst c1
      exact Or.inr ⟨i, by rw [e0]; exact hi, pk_us, ei⟩
    · rw [pk_un c1]
      by_cases c2 : t = f
      · subst c2; exact Or.inl pk_us
      · rw [pk_un c2]
        rcases h.2 t ht with q | ⟨g, hg, q1, q2⟩
        · exact Or.inl q
        · have c : g ≠ i := fun e => by subst e; rw [hp] at q2; exact c2 (nI_inj (by omega) (by omega) q2.symm)
          exact Or.inr ⟨g, by rw [e0]; exact hg, q1, by rw [eo g c]; exact q2⟩
/-- an exchange -/
theorem wfs_ex (hsf : sfN N) (h : wfs N G) (hi : (i : Int) < (N 0).toInt) (hss : s < 60) (hf : f < 60) (hp : N (22 + 11 * i) = nI f) (hg : (g : Int) < (N 0).toInt) (hsl : N (22 + 11 * g) = nI s) (hne : g ≠ i) (e0 : N' 0 = N 0) (ei : N' (22 + 11 * i) = nI s) (eg : N' (22 + 11 * g) = nI f) (eo : ∀ j, j ≠ i → j ≠ g → N' (22 + 11 * j) = N (22 + 11 * j)) : wfs N' (upd (upd (upd G f (-1)) f (nI g)) s (nI i)) := by
  have hfi := h.1 i f hi hf hp
  have hsg := h.1 g s hg hss hsl
  have h20 : i < 20 := n20 hsf hi
  have hg20 : g < 20 := n20 hsf hg
  have hfs : f ≠ s := fun e => by subst e; rw [hfi] at hsg; exact hne (nI_inj (by omega) (by omega) hsg.symm)
  constructor
  · intro j t hj ht hjt
    rw [e0] at hj
    have hj20 : j < 20 := n20 hsf hj
    by_cases c : j = i
    · subst c
      rw [ei] at hjt
      have := nI_inj (by omega) (by omega) hjt
      subst this
      exact pk_us
    · by_cases c3 : j = g
      · subst c3
        rw [eg] at hjt
        have := nI_inj (by omega) (by omega) hjt
        subst this
        rw [pk_un hfs]
        exact pk_us
      · rw [eo j c c3] at hjt
        have q := h.1 j t hj ht hjt
        have c1 : t ≠ s := fun e => by subst e; rw [hsg] at q; exact c3 (nI_inj (by omega) (by omega) q.symm)
        have c2 : t ≠ f := fun e => by subst e; rw [hfi] at q; exact c (nI_inj (by omega) (by omega) q.symm)
        rw [pk_un c1, pk_un c2, pk_un c2]
        exact q
  · intro t ht
    by_cases c1 : t = s
    · subst c1
      exact Or.inr ⟨i, by rw [e0]; exact hi, pk_us, ei⟩
    · rw [pk_un c1]
      by_cases c2 : t = f
      · subst c2
        exact Or.inr ⟨g, by rw [e0]; exact hg, pk_us, eg⟩
      · rw [pk_un c2, pk_un c2]
        rcases h.2 t ht with q | ⟨j, hj, q1, q2⟩
        · exact Or.inl q
        · have hj20 : j < 20 := n20 hsf hj
          have c : j ≠ i := fun e => by subst e; rw [hp] at q2; exact c2 (nI_inj (by omega) (by omega) q2.symm)
          have c3 : j ≠ g := fun e => by subst e; rw [hsl] at q2; exact c1 (nI_inj (by omega) (by omega) q2.symm)
          exact Or.inr ⟨j, by rw [e0]; exact hj, q1, by rw [eo j c c3]; exact q2⟩
end PG
