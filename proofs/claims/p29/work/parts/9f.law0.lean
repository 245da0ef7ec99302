/-! PURE: the law's start, its goods, their places -/
section LF
variable {Y : Nat → va_H} {S q V : Nat → Int32} {z : Int32} {U : Nat → Int32} {y : Int32} {I N G d : Nat → Int32} {b B : Int} {i s : Nat} {f : Int32 × ((Nat → Int32) × (Nat → Int32))} {r : Int32} {M G' : Nat → Int32}
/-- the fresh object -/
def frs (Y : Nat → va_H) (q I : Nat → Int32) : Prop := (Y 4).2.1 = N00 ∧ (∀ k, k < 60 → (Y 4).2.2 k = -1) ∧ I 0 = 0 ∧ q 0 = 0
theorem ix0 : ix ((20 : Int32) - 20) = 0 ∧ ix ((21 : Int32) - 20) = 1 ∧ ix ((22 : Int32) - 20) = 2 := by decide
theorem f20 (h : frs Y q I) : sp_X5_count Y S q V z U y I (20 : Int32) = 30 := by
  rw [cntk (by decide) (by decide), h.1]
  unfold sp_X4_numberOfWarehouse
  rw [if_neg (by decide : ¬ (20 : Int32) = (0 : Int32)), if_neg (by decide : ¬ (20 : Int32) = (1 : Int32)), if_neg (by decide : ¬ (20 : Int32) = (2 : Int32)), if_neg (by decide : ¬ (20 : Int32) = (3 : Int32)), if_neg (by decide : ¬ (20 : Int32) = (4 : Int32)), if_neg (by decide : ¬ (20 : Int32) = (5 : Int32)), if_neg (by decide : ¬ (20 : Int32) = (6 : Int32)), if_neg (by decide : ¬ (20 : Int32) = (7 : Int32)), if_neg (by decide : ¬ (20 : Int32) = (8 : Int32)), if_neg (by decide : ¬ (20 : Int32) = (9 : Int32)), if_neg (by decide : ¬ (20 : Int32) = (10 : Int32)), if_neg (by decide : ¬ (20 : Int32) = (11 : Int32)), if_neg (by decide : ¬ (20 : Int32) = (12 : Int32)), if_neg (by decide : ¬ (20 : Int32) = (13 : Int32)), if_neg (by decide : ¬ (20 : Int32) = (14 : Int32)), if_neg (by decide : ¬ (20 : Int32) = (15 : Int32)), if_neg (by decide : ¬ (20 : Int32) = (16 : Int32)), if_neg (by decide : ¬ (20 : Int32) = (17 : Int32)), if_neg (by decide : ¬ (20 : Int32) = (18 : Int32)), if_neg (by decide : ¬ (20 : Int32) = (19 : Int32)), if_pos rfl, ix0.1]
  decide
theorem f21 (h : frs Y q I) : sp_X5_count Y S q V z U y I (21 : Int32) = 60 := by
  rw [cntk (by decide) (by decide), h.1]
  unfold sp_X4_numberOfWarehouse
  rw [if_neg (by decide : ¬ (21 : Int32) = (0 : Int32)), if_neg (by decide : ¬ (21 : Int32) = (1 : Int32)), if_neg (by decide : ¬ (21 : Int32) = (2 : Int32)), if_neg (by decide : ¬ (21 : Int32) = (3 : Int32)), if_neg (by decide : ¬ (21 : Int32) = (4 : Int32)), if_neg (by decide : ¬ (21 : Int32) = (5 : Int32)), if_neg (by decide : ¬ (21 : Int32) = (6 : Int32)), if_neg (by decide : ¬ (21 : Int32) = (7 : Int32)), if_neg (by decide : ¬ (21 : Int32) = (8 : Int32)), if_neg (by decide : ¬ (21 : Int32) = (9 : Int32)), if_neg (by decide : ¬ (21 : Int32) = (10 : Int32)), if_neg (by decide : ¬ (21 : Int32) = (11 : Int32)), if_neg (by decide : ¬ (21 : Int32) = (12 : Int32)), if_neg (by decide : ¬ (21 : Int32) = (13 : Int32)), if_neg (by decide : ¬ (21 : Int32) = (14 : Int32)), if_neg (by decide : ¬ (21 : Int32) = (15 : Int32)), if_neg (by decide : ¬ (21 : Int32) = (16 : Int32)), if_neg (by decide : ¬ (21 : Int32) = (17 : Int32)), if_neg (by decide : ¬ (21 : Int32) = (18 : Int32)), if_neg (by decide : ¬ (21 : Int32) = (19 : Int32)), if_neg (by decide : ¬ (21 : Int32) = (20 : Int32)), if_pos rfl, ix0.2.1]
  decide
theorem f22 (h : frs Y q I) : sp_X5_count Y S q V z U y I (22 : Int32) = 1 := by
  rw [cntk (by decide) (by decide), h.1]
  unfold sp_X4_numberOfWarehouse
  rw [if_neg (by decide : ¬ (22 : Int32) = (0 : Int32)), if_neg (by decide : ¬ (22 : Int32) = (1 : Int32)), if_neg (by decide : ¬ (22 : Int32) = (2 : Int32)), if_neg (by decide : ¬ (22 : Int32) = (3 : Int32)), if_neg (by decide : ¬ (22 : Int32) = (4 : Int32)), if_neg (by decide : ¬ (22 : Int32) = (5 : Int32)), if_neg (by decide : ¬ (22 : Int32) = (6 : Int32)), if_neg (by decide : ¬ (22 : Int32) = (7 : Int32)), if_neg (by decide : ¬ (22 : Int32) = (8 : Int32)), if_neg (by decide : ¬ (22 : Int32) = (9 : Int32)), if_neg (by decide : ¬ (22 : Int32) = (10 : Int32)), if_neg (by decide : ¬ (22 : Int32) = (11 : Int32)), if_neg (by decide : ¬ (22 : Int32) = (12 : Int32)), if_neg (by decide : ¬ (22 : Int32) = (13 : Int32)), if_neg (by decide : ¬ (22 : Int32) = (14 : Int32)), if_neg (by decide : ¬ (22 : Int32) = (15 : Int32)), if_neg (by decide : ¬ (22 : Int32) = (16 : Int32)), if_neg (by decide : ¬ (22 : Int32) = (17 : Int32)), if_neg (by decide : ¬ (22 : Int32) = (18 : Int32)), if_neg (by decide : ¬ (22 : Int32) = (19 : Int32)), if_neg (by decide : ¬ (22 : Int32) = (20 : Int32)), if_neg (by decide : ¬ (22 : Int32) = (21 : Int32)), if_pos rfl, ix0.2.2]
  decide
theorem f4 (h : frs Y q I) : sp_X5_count Y S q V z U y I (4 : Int32) = 13 := by
  rw [cntk (by decide) (by decide), rcw4, h.1]
  unfold sp_X4_weeksLeft
  rw [N00_z (by omega) (by omega) (by omega)]
  decide
theorem fbg (h0 : N 0 = 0) : sp_X4_bestGoing N G = -4 := by
  unfold sp_X4_bestGoing
  rw [show (21 : Nat) = 20 + 1 from rfl, lp7_X4_bestGoing_s, if_pos (by rw [h0]; exact leR)]
theorem N000 : N00 0 = 0 := N00_z (by omega) (by omega) (by omega)
theorem fim (h : frs Y q I) : (sp_X4_doBest (Y 4).2.1 (Y 4).2.2 (1 : Int32)).1 = -4 := by
  rw [h.1]
  unfold sp_X4_doBest
  rw [if_neg (by decide : ¬ sp_X5_isIn (1 : Int32) (1 : Int32) (10 : Int32) = 0), fbg N000, show (11 : Nat) = 10 + 1 from rfl, lp19_X4_doBest_s, if_neg (by decide : ¬ (1 : Int32) ≤ 0), if_pos (by decide : (-4 : Int32) < 0), if_pos rfl]
theorem fbe (h : frs Y q I) : sp_X5_best Y S q V z U y I (2 : Int32) = -4 := by
  show sp_X4_numberOfBest (Y 4).2.1 (Y 4).2.2 (2 : Int32) = -4
  rw [h.1]
  unfold sp_X4_numberOfBest
  rw [if_neg (by decide : ¬ sp_X5_isIn (2 : Int32) (0 : Int32) (2 : Int32) = 0), fbg N000, if_neg (by decide : ¬ (0 : Int32) ≤ -4)]
theorem fun0 (h : frs Y q I) : sp_X5_undo Y S q V z U y I = (-2, (Y, I)) := by
  unfold sp_X5_undo
  rw [if_neg (by rw [h.2.2.1]; decide)]
/-- an empty text -/
theorem tt0 (h : q 0 = 0) : ∃ W q' I', sp_X5_tryText Y S q V z U y I = (0, (W, (q', I'))) ∧ FR Y W ∧ (W 5).2.1 = (Y 4).2.1 ∧ (W 5).2.2 = (Y 4).2.2 ∧ q' 0 = 0 ∧ I' 0 = I 0 ∧ I' 2 = 0 := by
  refine ⟨_, upd q 1 0, upd I 2 0, ?_, fun j hj => w5_o hj, rfl, rfl, (pk_un (by omega)).trans h, pk_un (by omega), pk_us⟩
  unfold sp_X5_tryText sp_X1_startReading sp_X5_startTrial
  dsimp only
  rw [show (61 : Nat) = 60 + 1 from rfl, lp18_X5_tryText_s, if_neg (by decide : ¬ (60 : Int32) ≤ 0)]
  have e : ¬ sp_X1_isAtEnd S (upd q 1 0) = 0 := by
    unfold sp_X1_isAtEnd
    rw [pk_us, pk_un (by omega), h, if_neg (by decide : ¬ (0 : Int32) < 0)]
    decide
  rw [if_neg e]
theorem fpl (h : frs Y q I) : ∃ W q' I', sp_X5_play Y S q V z U y I = (0, (W, (q', I'))) ∧ kept Y I W I' ∧ q' 0 = 0 := by
  obtain ⟨W, q', I', e, h1, h2, h3, h4, h5, h6⟩ := tt0 (Y := Y) (S := S) (V := V) (z := z) (U := U) (y := y) (I := I) h.2.2.2
  unfold sp_X5_play
  rw [e]
  dsimp only
  rw [if_pos h6]
  unfold sp_X5_endTrial
  rw [if_neg (by decide : ¬ (0 : Int32) < 0)]
  dsimp only
  have i00 : I 0 = 0 := h.2.2.1
  obtain ⟨k1, k2⟩ := keep_k (S := S) (q := q') (V := V) (z := z) (U := U) (y := y) (I := I') (Y := Y) (W := W) (by rw [h5, i00]; decide) (by rw [h5, i00]; decide) h1
  refine ⟨_, q', _, rfl, ?_, h4⟩
  unfold kept at k1 ⊢
  rw [h5] at k1
  exact k1
theorem ffa (h : q 0 = 0) : ∃ W q' I', sp_X5_fault Y S q V z U y I (0 : Int32) = (-4, (W, (q', I'))) ∧ FR Y W ∧ q' 0 = 0 ∧ I' 0 = I 0 := by
  obtain ⟨W, q', I', e, h1, h2, h3, h4, h5, h6⟩ := tt0 (Y := Y) (S := S) (V := V) (z := z) (U := U) (y := y) (I := I) h
  refine ⟨W, q', I', ?_, h1, h4, h5⟩
  unfold sp_X5_fault
  rw [if_pos rfl, e]
  dsimp only
  rw [if_pos h6]
theorem fwf (hG : ∀ k, k < 60 → G k = -1) : wf 0 N00 G := by
  have z0 := N000
  have i00 : (0 : Int32).toInt = 0 := by decide
  refine ⟨?_, fun g hg => ?_, fun g hg hn => ?_, ?_, ⟨fun g s hg => ?_, fun s hs => Or.inl (hG s hs)⟩, ?_⟩
  · unfold sfN; rw [z0, N00_z (by omega) (by omega) (by omega)]; decide
  · rw [z0, i00] at hg; omega
  · refine ⟨fun s hs => ?_, ?_, ?_, ?_, ?_⟩ <;> exact N00_z (by omega) (by omega) (by omega)
  · unfold wft; decide
  · rw [z0, i00] at hg; omega
  · unfold wfb wkS
    rw [z0, i00, N00_z (by omega) (by omega) (by omega), N00_z (by omega) (by omega) (by omega)]
    rfl
theorem fxt : xt B N00 (fun _ => 0) := by
  intro g hg
  rw [N000, i0] at hg; omega
/-- a change that is kept, its row known -/
theorem chg_ex (h1 : 0 ≤ (I 0).toInt) (h2 : (I 0).toInt ≤ 4) (hf : f = (r, (M, G'))) (hc : ¬ r < 0) : ∃ Y' I', chg Y S q V z U y I f = (r, (Y', I')) ∧ (Y' 4).2.1 = M ∧ (Y' 4).2.2 = G' ∧ 0 ≤ (I' 0).toInt ∧ (I' 0).toInt ≤ 4 := by
  subst hf
  obtain ⟨k1, k2⟩ := keep_k (S := S) (q := q) (V := V) (z := z) (U := U) (y := y) h1 h2 (Y := Y) (W := w5 (w5 Y (Y 4).2.1 (Y 4).2.2) M G') w55
  have nb := nx4_b h1 h2
  refine ⟨(sp_X5_keepTrial (w5 (w5 Y (Y 4).2.1 (Y 4).2.2) M G') S q V z U y I).1, (sp_X5_keepTrial (w5 (w5 Y (Y 4).2.1 (Y 4).2.2) M G') S q V z U y I).2, ?_, ?_, ?_, by rw [k1.1]; exact nb.1, by rw [k1.1]; exact nb.2⟩
  · unfold chg sp_X5_endTrial
    rw [if_neg hc]
  · rw [k2]; rfl
  · rw [k2]; rfl
/-- a good more -/
def gdM (N : Nat → Int32) (n : Nat) (x y : Int32) : Nat → Int32 := upd (upd (upd (upd N (16 + 11 * n) x) (17 + 11 * n) y) (22 + 11 * n) (-1)) 0 (N 0 + 1)
theorem l_good (h : wf b N G) (hn : N 0 = nI i) (hi : i < 20) {x y : Int32} (hx : 1 ≤ x.toInt ∧ x.toInt ≤ 40) (hy : 1 ≤ y.toInt ∧ y.toInt ≤ 200) : sp_X4_addGood N G x y = (nI i, (gdM N i x y, G)) := by
  unfold sp_X4_addGood
  dsimp only
  have q1 : ¬ sp_X5_isIn x (1 : Int32) (40 : Int32) = 0 := by
    rw [is_in, in_iff, show (1 : Int32).toInt = 1 from by decide, show (40 : Int32).toInt = 40 from by decide]; exact hx
  have q2 : ¬ sp_X5_isIn y (1 : Int32) (200 : Int32) = 0 := by
    rw [is_in, in_iff, show (1 : Int32).toInt = 1 from by decide, show (200 : Int32).toInt = 200 from by decide]; exact hy
  have c2 : N 0 < (20 : Int32) := by rw [hn, lt_toInt, tI (by omega), show (20 : Int32).toInt = 20 from by decide]; omega
  have ei : ix (N 0) = i := by rw [hn]; exact xI (by omega)
  have p0 : ∀ M : Nat → Int32, ∀ v, upd M (16 + 11 * i) v 0 = M 0 := fun M v => pk_un (by omega)
  have p1 : ∀ M : Nat → Int32, ∀ v, upd M (17 + 11 * i) v 0 = M 0 := fun M v => pk_un (by omega)
  have p2 : ∀ M : Nat → Int32, ∀ v, upd M (22 + 11 * i) v 0 = M 0 := fun M v => pk_un (by omega)
  rw [if_neg q1, if_neg q2, if_pos c2, ei, p0, ei, p1, p0, ei, p2, p1, p0, pk_us]
  have ea : N 0 + 1 - 1 = nI i := by rw [hn]; grind
  rw [ea]
  rfl
theorem gd_wf (hb : 0 ≤ b) (h : wf b N G) (hn : N 0 = nI i) (hi : i < 20) {x y : Int32} (hx : 1 ≤ x.toInt ∧ x.toInt ≤ 40) (hy : 1 ≤ y.toInt ∧ y.toInt ≤ 200) : wf b (gdM N i x y) G := wf_new hb h (by rw [hn, tI (by omega)]) hi hx hy
theorem gd_0 (hn : N 0 = nI i) {x y : Int32} : gdM N i x y 0 = nI (i + 1) := by
  unfold gdM
  rw [pk_us, hn, nI_1]
theorem gd_16 {x y : Int32} : gdM N i x y (16 + 11 * i) = x := by
  unfold gdM
  rw [pk_un (by omega), pk_un (by omega), pk_un (by omega), pk_us]
theorem gd_o {x y : Int32} {k : Nat} (h0 : k ≠ 0) (h1 : k ≠ 16 + 11 * i) (h2 : k ≠ 17 + 11 * i) (h3 : k ≠ 22 + 11 * i) : gdM N i x y k = N k := by
  unfold gdM
  rw [pk_un h0, pk_un h3, pk_un h2, pk_un h1]
theorem gd_xt (h : wf b N G) (hx : xt B N d) (hB : 0 ≤ B) (hn : N 0 = nI i) (hi : i < 20) (hd : d i = 0) {x y : Int32} : xt B (gdM N i x y) d := by
  intro g hg
  rw [gd_0 hn, tI (by omega)] at hg
  have hz := h.z (i := i) hi (by rw [hn, tI (by omega)]; omega)
  by_cases e : g = i
  · subst e
    unfold xtg
    have e22 : gdM N g x y (22 + 11 * g) = -1 := by
      unfold gdM
      rw [pk_un (by omega), pk_us]
    rw [e22, gd_o (i := g) (k := 23 + 11 * g) (by omega) (by omega) (by omega) (by omega), gd_o (i := g) (k := 24 + 11 * g) (by omega) (by omega) (by omega) (by omega), gd_o (i := g) (k := 25 + 11 * g) (by omega) (by omega) (by omega) (by omega), gd_o (i := g) (k := 26 + 11 * g) (by omega) (by omega) (by omega) (by omega), hz.2.1, hz.2.2.1, hz.2.2.2.1, hz.2.2.2.2, hd, i0]
    exact ⟨fun _ => rfl, fun s hs q => absurd q.symm (nI_nm1 (by omega)), by omega, by omega, by omega, hB⟩
  · have hg2 : (g : Int) < (N 0).toInt := by rw [hn, tI (by omega)]; omega
    have sm : smg N (gdM N i x y) g := ⟨gd_o (by omega) (by omega) (by omega) (by omega), fun k k1 k2 => gd_o (by omega) (by omega) (by omega) (by omega)⟩
    exact sm.x rfl (hx g hg2)
/-- nothing stands anywhere: the nearest slot is one -/
theorem l_near (h : wf b N G) (hi : (i : Int) < (N 0).toInt) (ht : ∃ t, t < 60 ∧ G t = -1 ∧ N (16 + 11 * i) ≤ sp_X2_heaviestAt (nI t)) : nrG N G i (sp_X4_nearestFreeSlot N G (nI i)) := by
  obtain ⟨t, t1, t2, t3⟩ := ht
  rcases nr h hi with ⟨_, q⟩ | q
  · exact absurd ⟨t2, t3⟩ (q t t1)
  · exact q
theorem hv40 : ∀ c, c < 10 → sp_X2_heaviestAt (nI (6 * c)) = 40 := by decide
theorem w40 (h : wf b N G) (hi : (i : Int) < (N 0).toInt) {c : Nat} (hc : c < 10) : N (16 + 11 * i) ≤ sp_X2_heaviestAt (nI (6 * c)) := by
  rw [hv40 c hc, le_toInt, show (40 : Int32).toInt = 40 from by decide]
  exact (h.g hi).w.2
/-- of more numbers than there are values two are alike -/
theorem php : ∀ (n : Nat) (f : Nat → Nat), (∀ i, i < n + 1 → f i < n) → ∃ i j, i < j ∧ j < n + 1 ∧ f i = f j := by
  intro n
  induction n with
  | zero => intro f h; exact absurd (h 0 (by omega)) (by omega)
  | succ n ih =>
    intro f h
    by_cases c : ∃ i, i < n + 1 ∧ f i = f (n + 1)
    · obtain ⟨i, hi, e⟩ := c
      exact ⟨i, n + 1, by omega, by omega, e⟩
    · have hne : ∀ i, i < n + 1 → f i ≠ f (n + 1) := fun i hi e => c ⟨i, hi, e⟩
      obtain ⟨i, j, h1, h2, h3⟩ := ih (fun i => if f i < f (n + 1) then f i else f i - 1) (fun i hi => by
        have a := h i (by omega)
        have b := hne i hi
        have c := h (n + 1) (by omega)
        by_cases e : f i < f (n + 1)
        · rw [if_pos e]; omega
        · rw [if_neg e]; omega)
      refine ⟨i, j, h1, by omega, ?_⟩
      have a := hne i (by omega)
      have b := hne j (by omega)
      by_cases e1 : f i < f (n + 1)
      · rw [if_pos e1] at h3
        by_cases e2 : f j < f (n + 1)
        · rw [if_pos e2] at h3; exact h3
        · rw [if_neg e2] at h3; omega
      · rw [if_neg e1] at h3
        by_cases e2 : f j < f (n + 1)
        · rw [if_pos e2] at h3; omega
        · rw [if_neg e2] at h3; omega
/-- eight goods can't stand in all ten slots of height 0 -/
theorem l_free (h : wf b N G) {n : Nat} (hn : (N 0).toInt = (n : Int)) (h8 : n ≤ 8) : ∃ c, c < 10 ∧ G (6 * c) = -1 := by
  refine Classical.byContradiction fun hc => ?_
  have h1 : ∀ c, c < 10 → ∃ g : Nat, (g : Int) < (N 0).toInt ∧ G (6 * c) = nI g ∧ N (22 + 11 * g) = nI (6 * c) := by
    intro c hc10
    rcases h.sl.2 (6 * c) (by omega) with q | q
    · exact absurd ⟨c, hc10, q⟩ hc
    · exact q
  have h2 : ∃ f : Nat → Nat, ∀ c, c < 10 → (f c : Int) < (N 0).toInt ∧ N (22 + 11 * f c) = nI (6 * c) := by
    refine ⟨fun c => if hc10 : c < 10 then (h1 c hc10).choose else 0, fun c hc10 => ?_⟩
    dsimp only
    rw [dif_pos hc10]
    exact ⟨(h1 c hc10).choose_spec.1, (h1 c hc10).choose_spec.2.2⟩
  obtain ⟨f, hf⟩ := h2
  obtain ⟨i, j, h3, h4, h5⟩ := php 8 f (fun i hi => by have := (hf i (by omega)).1; omega)
  have e1 := (hf i (by omega)).2
  have e2 := (hf j (by omega)).2
  rw [h5, e2] at e1
  have := nI_inj (by omega) (by omega) e1
  omega
theorem l_near8 (h : wf b N G) {n : Nat} (hn : (N 0).toInt = (n : Int)) (h8 : n ≤ 8) (hi : (i : Int) < (N 0).toInt) : nrG N G i (sp_X4_nearestFreeSlot N G (nI i)) := by
  obtain ⟨c, hc, hG⟩ := l_free h hn h8
  exact l_near h hi ⟨6 * c, by omega, hG, w40 h hi hc⟩
/-- units delivered to a new good -/
theorem l_del (h : wf b N G) (hi : (i : Int) < (N 0).toInt) (hz : N (24 + 11 * i) = 0) (hz3 : N (23 + 11 * i) = 0) {y : Int32} (hy : 1 ≤ y.toInt ∧ y.toInt ≤ 300) : sp_X4_addToStore N G (nI i) y = (y, (upd N (24 + 11 * i) y, G)) ∧ wf b (upd N (24 + 11 * i) y) G := by
  have h20 := h.n20 hi
  have hin : ¬ sp_X5_isIn y (1 : Int32) (5000 : Int32) = 0 := by
    rw [is_in, in_iff, show (1 : Int32).toInt = 1 from by decide, show (5000 : Int32).toInt = 5000 from by decide]; omega
  constructor
  · unfold sp_X4_addToStore
    dsimp only
    rw [if_neg (isg_in h.sf hi), if_neg hin, xI (show i < 1000 by omega), hz, Int32.zero_add, pk_us, if_pos (by rw [le_toInt, show (100000 : Int32).toInt = 100000 from by decide]; omega)]
  · refine (fdq_u (Or.inr (Or.inr (by omega))) fdq_rf).wf h hi (Int.le_refl b) ?_ ?_ ?_
    · rw [pk_un (by omega)]; exact (h.g hi).u
    · rw [pk_us, pk_un (by omega), hz3, i0]; omega
    · rw [pk_un (by omega)]; exact (h.g hi).k
theorem l_dxt (hx : xt B N d) (hB : 0 ≤ B) (hi : (i : Int) < (N 0).toInt) (hz : N (24 + 11 * i) = 0) (hz3 : N (23 + 11 * i) = 0) (hz6 : N (26 + 11 * i) = 0) {y : Int32} (hy : 1 ≤ y.toInt ∧ y.toInt ≤ 300) : xt (B + 5000) (upd N (24 + 11 * i) y) (upd d i y) := by
  obtain ⟨x1, x2, x3, x4, x5, x6⟩ := hx i hi
  refine xt_1 (i := i) (hx.mono (by omega)) (pk_un (by omega)) (fun g hg => ⟨pk_un (by omega), fun j _ _ => pk_un (by omega)⟩) (fun g hg => pk_un hg) (fun _ => ?_)
  unfold xtg
  rw [pk_un (show 22 + 11 * i ≠ 24 + 11 * i by omega), pk_un (show 16 + 11 * i ≠ 24 + 11 * i by omega), pk_un (show 23 + 11 * i ≠ 24 + 11 * i by omega), pk_un (show 25 + 11 * i ≠ 24 + 11 * i by omega), pk_un (show 26 + 11 * i ≠ 24 + 11 * i by omega), pk_us, pk_us]
  rw [hz3, hz6, i0]
  rw [hz6, i0] at x4 x5
  exact ⟨fun _ => rfl, x2, by omega, by omega, x5, by omega⟩
/-- its demand -/
theorem l_dem (h : wf b N G) (hx : xt B N d) (hi : (i : Int) < (N 0).toInt) (hs : s < 4) {v : Int32} (hv : 0 ≤ v.toInt ∧ v.toInt ≤ 999) : sp_X4_changeDemand N G (nI i) (nI s) v = (N (18 + 11 * i + s), (upd N (18 + 11 * i + s) v, G)) ∧ ∃ M, (∀ j, j < 236 → j ≠ 10 → upd N (18 + 11 * i + s) v j = M j) ∧ wf b M G ∧ xt B M d ∧ M 0 = N 0 := by
  have h20 := h.n20 hi
  have hin : ¬ sp_X5_isIn v (0 : Int32) (999 : Int32) = 0 := by
    rw [is_in, in_iff, i0, show (999 : Int32).toInt = 999 from by decide]; exact hv
  constructor
  · unfold sp_X4_changeDemand
    dsimp only
    rw [if_neg (isg_in h.sf hi), if_neg (fun w => q46.mp w ⟨s, hs, rfl⟩), if_neg hin, dix h20 hs, d4 h20 hs]
  · refine ⟨upd (upd N (18 + 11 * i + s) v) 10 (N 10 + (wkS (upd N (18 + 11 * i + s) v) (sea N) - wkS N (sea N))), fun j _ h10 => (pk_un h10).symm, wf_dem hv h hi hs rfl, ?_, ?_⟩
    · exact xt_0 hx ((pk_un (by omega)).trans (pk_un (by omega))) (fun g => ⟨(pk_un (by omega)).trans (pk_un (by omega)), fun j _ _ => (pk_un (by omega)).trans (pk_un (by omega))⟩)
    · exact (pk_un (by omega)).trans (pk_un (by omega))
/-- a place for a good: it goes there, or the slot is not the nearest -/
theorem l_pla (h : wf b N G) (hx : xt B N d) (hi : (i : Int) < (N 0).toInt) (hs : s < 60) (hp : N (22 + 11 * i) = -1) : (sp_X4_putIntoSlot N G (nI i) (nI s) = (sp_X2_walkTo (nI s), (upd N (22 + 11 * i) (nI s), upd G s (nI i))) ∧ ∃ M, (∀ j, j < 236 → j ≠ 10 → upd N (22 + 11 * i) (nI s) j = M j) ∧ wf b M (upd G s (nI i)) ∧ xt B M d ∧ M 0 = N 0 ∧ M (22 + 11 * i) = nI s ∧ ∀ g, g ≠ i → M (22 + 11 * g) = N (22 + 11 * g)) ∨ ((sp_X4_putIntoSlot N G (nI i) (nI s)).1 = -2 ∧ ¬ nrG N G i (nI s)) := by
  have h20 := h.n20 hi
  have e0 : sp_X4_putIntoSlot N G (nI i) (nI s) = if sp_X4_isGood N G (G s) = 0 then (if sp_X4_bears N G (nI s) (nI i) = 0 then (-2, (N, G)) else (sp_X2_walkTo (nI s), (upd N (22 + 11 * i) (nI s), upd G s (nI i)))) else (-2, (N, G)) := by
    unfold sp_X4_putIntoSlot sp_X4_standIn
    dsimp only
    rw [if_neg (isg_in h.sf hi), if_neg (iss_in hs), if_pos ((pplaced h20 (h.g hi).p).mpr hp), xI (show s < 1000 by omega), xI (show i < 1000 by omega)]
  by_cases c2 : sp_X4_isGood N G (G s) = 0
  · have hG := (pfree h.sf h.sl hs).mp c2
    by_cases c3 : sp_X4_bears N G (nI s) (nI i) = 0
    · refine Or.inr ⟨by rw [e0, if_pos c2, if_pos c3], ?_⟩
      rintro ⟨t, t1, t2, t3, t4⟩
      rw [← nI_inj (by omega) (by omega) t2] at t4
      exact le_bears h20 t4 c3
    · refine Or.inl ⟨by rw [e0, if_pos c2, if_neg c3], _, fun j _ h10 => (pk_un h10).symm, wf_place h hi hs hp hG, ?_, (pk_un (by omega)).trans (pk_un (by omega)), (pk_un (by omega)).trans pk_us, fun g hg => (pk_un (by omega)).trans (pk_un (by omega))⟩
      obtain ⟨x1, x2, x3, x4, x5, x6⟩ := hx i hi
      refine xt_1 (i := i) hx ((pk_un (by omega)).trans (pk_un (by omega))) (fun g hg => ⟨(pk_un (by omega)).trans (pk_un (by omega)), fun j _ _ => (pk_un (by omega)).trans (pk_un (by omega))⟩) (fun g hg => rfl) (fun _ => ?_)
      unfold xtg
      dsimp only
      rw [pk_un (show 16 + 11 * i ≠ 10 by omega), pk_un (show 22 + 11 * i ≠ 10 by omega), pk_un (show 23 + 11 * i ≠ 10 by omega), pk_un (show 24 + 11 * i ≠ 10 by omega), pk_un (show 25 + 11 * i ≠ 10 by omega), pk_un (show 26 + 11 * i ≠ 10 by omega), pk_us, pk_un (show 16 + 11 * i ≠ 22 + 11 * i by omega), pk_un (show 23 + 11 * i ≠ 22 + 11 * i by omega), pk_un (show 24 + 11 * i ≠ 22 + 11 * i by omega), pk_un (show 25 + 11 * i ≠ 22 + 11 * i by omega), pk_un (show 26 + 11 * i ≠ 22 + 11 * i by omega)]
      refine ⟨fun q => absurd q (nI_nm1 (by omega)), fun t ht q => ?_, x3, x4, x5, x6⟩
      rw [← nI_inj (by omega) (by omega) q]
      exact bears_le h20 c3
  · refine Or.inr ⟨by rw [e0, if_neg c2], ?_⟩
    rintro ⟨t, t1, t2, t3, t4⟩
    rw [← nI_inj (by omega) (by omega) t2] at t3
    exact c2 ((pfree h.sf h.sl hs).mpr t3)
end LF
