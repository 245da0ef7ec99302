/-! PURE: what is read of a row (printed by wip/p29/mk93.py) -/
section RD
variable {N G d : Nat → Int32} {b B : Int} {i s f g : Nat}
theorem isg_in (h : sfN N) (hi : (i : Int) < (N 0).toInt) : ¬ sp_X4_isGood N G (nI i) = 0 := fun q => (g4 h).mp q ⟨i, hi, rfl⟩
theorem iss_in (hs : s < 60) : ¬ sp_X2_isSlot (nI s) = 0 := fun q => z2.mp q ⟨s, hs, rfl⟩
theorem rd0 (h : sfN N) (hi : (i : Int) < (N 0).toInt) : sp_X4_numberOfGood N G (nI i) (0 : Int32) = N (16 + 11 * i) := by
  unfold sp_X4_numberOfGood
  rw [if_neg (isg_in h hi), if_neg (by decide : ¬ sp_X5_isIn (0 : Int32) (0 : Int32) (11 : Int32) = 0), if_pos rfl, xI (show i < 1000 by have := n20 h hi; omega)]
theorem rd1 (h : sfN N) (hi : (i : Int) < (N 0).toInt) : sp_X4_numberOfGood N G (nI i) (1 : Int32) = N (17 + 11 * i) := by
  unfold sp_X4_numberOfGood
  rw [if_neg (isg_in h hi), if_neg (by decide : ¬ sp_X5_isIn (1 : Int32) (0 : Int32) (11 : Int32) = 0), if_neg (by decide : ¬ (1 : Int32) = (0 : Int32)), if_pos rfl, xI (show i < 1000 by have := n20 h hi; omega)]
theorem rd7 (h : sfN N) (hi : (i : Int) < (N 0).toInt) : sp_X4_numberOfGood N G (nI i) (7 : Int32) = N (23 + 11 * i) := by
  unfold sp_X4_numberOfGood
  rw [if_neg (isg_in h hi), if_neg (by decide : ¬ sp_X5_isIn (7 : Int32) (0 : Int32) (11 : Int32) = 0), if_neg (by decide : ¬ (7 : Int32) = (0 : Int32)), if_neg (by decide : ¬ (7 : Int32) = (1 : Int32)), if_neg (by decide : ¬ (7 : Int32) = (2 : Int32)), if_neg (by decide : ¬ (7 : Int32) = (3 : Int32)), if_neg (by decide : ¬ (7 : Int32) = (4 : Int32)), if_neg (by decide : ¬ (7 : Int32) = (5 : Int32)), if_neg (by decide : ¬ (7 : Int32) = (6 : Int32)), if_pos rfl, xI (show i < 1000 by have := n20 h hi; omega)]
theorem rd8 (h : sfN N) (hi : (i : Int) < (N 0).toInt) : sp_X4_numberOfGood N G (nI i) (8 : Int32) = N (24 + 11 * i) := by
  unfold sp_X4_numberOfGood
  rw [if_neg (isg_in h hi), if_neg (by decide : ¬ sp_X5_isIn (8 : Int32) (0 : Int32) (11 : Int32) = 0), if_neg (by decide : ¬ (8 : Int32) = (0 : Int32)), if_neg (by decide : ¬ (8 : Int32) = (1 : Int32)), if_neg (by decide : ¬ (8 : Int32) = (2 : Int32)), if_neg (by decide : ¬ (8 : Int32) = (3 : Int32)), if_neg (by decide : ¬ (8 : Int32) = (4 : Int32)), if_neg (by decide : ¬ (8 : Int32) = (5 : Int32)), if_neg (by decide : ¬ (8 : Int32) = (6 : Int32)), if_neg (by decide : ¬ (8 : Int32) = (7 : Int32)), if_pos rfl, xI (show i < 1000 by have := n20 h hi; omega)]
theorem rd9 (h : sfN N) (hi : (i : Int) < (N 0).toInt) : sp_X4_numberOfGood N G (nI i) (9 : Int32) = N (25 + 11 * i) := by
  unfold sp_X4_numberOfGood
  rw [if_neg (isg_in h hi), if_neg (by decide : ¬ sp_X5_isIn (9 : Int32) (0 : Int32) (11 : Int32) = 0), if_neg (by decide : ¬ (9 : Int32) = (0 : Int32)), if_neg (by decide : ¬ (9 : Int32) = (1 : Int32)), if_neg (by decide : ¬ (9 : Int32) = (2 : Int32)), if_neg (by decide : ¬ (9 : Int32) = (3 : Int32)), if_neg (by decide : ¬ (9 : Int32) = (4 : Int32)), if_neg (by decide : ¬ (9 : Int32) = (5 : Int32)), if_neg (by decide : ¬ (9 : Int32) = (6 : Int32)), if_neg (by decide : ¬ (9 : Int32) = (7 : Int32)), if_neg (by decide : ¬ (9 : Int32) = (8 : Int32)), if_pos rfl, xI (show i < 1000 by have := n20 h hi; omega)]
theorem rd10 (h : sfN N) (hi : (i : Int) < (N 0).toInt) : sp_X4_numberOfGood N G (nI i) (10 : Int32) = N (26 + 11 * i) := by
  unfold sp_X4_numberOfGood
  rw [if_neg (isg_in h hi), if_neg (by decide : ¬ sp_X5_isIn (10 : Int32) (0 : Int32) (11 : Int32) = 0), if_neg (by decide : ¬ (10 : Int32) = (0 : Int32)), if_neg (by decide : ¬ (10 : Int32) = (1 : Int32)), if_neg (by decide : ¬ (10 : Int32) = (2 : Int32)), if_neg (by decide : ¬ (10 : Int32) = (3 : Int32)), if_neg (by decide : ¬ (10 : Int32) = (4 : Int32)), if_neg (by decide : ¬ (10 : Int32) = (5 : Int32)), if_neg (by decide : ¬ (10 : Int32) = (6 : Int32)), if_neg (by decide : ¬ (10 : Int32) = (7 : Int32)), if_neg (by decide : ¬ (10 : Int32) = (8 : Int32)), if_neg (by decide : ¬ (10 : Int32) = (9 : Int32)), if_pos rfl, xI (show i < 1000 by have := n20 h hi; omega)]
theorem rd6 (h : wf b N G) (hi : (i : Int) < (N 0).toInt) : sp_X4_numberOfGood N G (nI i) (6 : Int32) = if N (22 + 11 * i) = -1 then -4 else N (22 + 11 * i) := by
  unfold sp_X4_numberOfGood
  rw [if_neg (isg_in h.sf hi), if_neg (by decide : ¬ sp_X5_isIn (6 : Int32) (0 : Int32) (11 : Int32) = 0), if_neg (by decide : ¬ (6 : Int32) = (0 : Int32)), if_neg (by decide : ¬ (6 : Int32) = (1 : Int32)), if_neg (by decide : ¬ (6 : Int32) = (2 : Int32)), if_neg (by decide : ¬ (6 : Int32) = (3 : Int32)), if_neg (by decide : ¬ (6 : Int32) = (4 : Int32)), if_neg (by decide : ¬ (6 : Int32) = (5 : Int32)), if_pos rfl, xI (show i < 1000 by have := h.n20 hi; omega)]
  by_cases c : N (22 + 11 * i) = -1
  · rw [if_pos ((pplaced (h.n20 hi) (h.g hi).p).mpr c), if_pos c]
  · rw [if_neg (fun q => c ((pplaced (h.n20 hi) (h.g hi).p).mp q)), if_neg c]
theorem rd11 (h : sfN N) (hi : (i : Int) < (N 0).toInt) : sp_X4_numberOfGood N G (nI i) (11 : Int32) = sp_X2_greatestHeightFor (N (16 + 11 * i)) := by
  unfold sp_X4_numberOfGood
  rw [if_neg (isg_in h hi), if_neg (by decide : ¬ sp_X5_isIn (11 : Int32) (0 : Int32) (11 : Int32) = 0), if_neg (by decide : ¬ (11 : Int32) = (0 : Int32)), if_neg (by decide : ¬ (11 : Int32) = (1 : Int32)), if_neg (by decide : ¬ (11 : Int32) = (2 : Int32)), if_neg (by decide : ¬ (11 : Int32) = (3 : Int32)), if_neg (by decide : ¬ (11 : Int32) = (4 : Int32)), if_neg (by decide : ¬ (11 : Int32) = (5 : Int32)), if_neg (by decide : ¬ (11 : Int32) = (6 : Int32)), if_neg (by decide : ¬ (11 : Int32) = (7 : Int32)), if_neg (by decide : ¬ (11 : Int32) = (8 : Int32)), if_neg (by decide : ¬ (11 : Int32) = (9 : Int32)), if_neg (by decide : ¬ (11 : Int32) = (10 : Int32)), if_pos rfl, xI (show i < 1000 by have := n20 h hi; omega)]
theorem rdD (h : sfN N) (hi : (i : Int) < (N 0).toInt) (hs : s < 4) : sp_X4_numberOfGood N G (nI i) ((2 : Int32) + nI s) = N (18 + 11 * i + s) := by
  have h20 := n20 h hi
  unfold sp_X4_numberOfGood
  rw [if_neg (isg_in h hi)]
  have e : ∀ t, t < 4 → (2 : Int32) + nI t - (2 : Int32) = nI t := by decide
  rw [e s hs, d4 h20 hs]
  rcases (show s = 0 ∨ s = 1 ∨ s = 2 ∨ s = 3 by omega) with rfl | rfl | rfl | rfl
  · rw [if_neg (by decide : ¬ sp_X5_isIn ((2 : Int32) + nI 0) (0 : Int32) (11 : Int32) = 0), if_neg (by decide : ¬ (2 : Int32) + nI 0 = (0 : Int32)), if_neg (by decide : ¬ (2 : Int32) + nI 0 = (1 : Int32)), if_pos (by decide : (2 : Int32) + nI 0 = (2 : Int32))]
  · rw [if_neg (by decide : ¬ sp_X5_isIn ((2 : Int32) + nI 1) (0 : Int32) (11 : Int32) = 0), if_neg (by decide : ¬ (2 : Int32) + nI 1 = (0 : Int32)), if_neg (by decide : ¬ (2 : Int32) + nI 1 = (1 : Int32)), if_neg (by decide : ¬ (2 : Int32) + nI 1 = (2 : Int32)), if_pos (by decide : (2 : Int32) + nI 1 = (3 : Int32))]
  · rw [if_neg (by decide : ¬ sp_X5_isIn ((2 : Int32) + nI 2) (0 : Int32) (11 : Int32) = 0), if_neg (by decide : ¬ (2 : Int32) + nI 2 = (0 : Int32)), if_neg (by decide : ¬ (2 : Int32) + nI 2 = (1 : Int32)), if_neg (by decide : ¬ (2 : Int32) + nI 2 = (2 : Int32)), if_neg (by decide : ¬ (2 : Int32) + nI 2 = (3 : Int32)), if_pos (by decide : (2 : Int32) + nI 2 = (4 : Int32))]
  · rw [if_neg (by decide : ¬ sp_X5_isIn ((2 : Int32) + nI 3) (0 : Int32) (11 : Int32) = 0), if_neg (by decide : ¬ (2 : Int32) + nI 3 = (0 : Int32)), if_neg (by decide : ¬ (2 : Int32) + nI 3 = (1 : Int32)), if_neg (by decide : ¬ (2 : Int32) + nI 3 = (2 : Int32)), if_neg (by decide : ¬ (2 : Int32) + nI 3 = (3 : Int32)), if_neg (by decide : ¬ (2 : Int32) + nI 3 = (4 : Int32)), if_pos (by decide : (2 : Int32) + nI 3 = (5 : Int32))]
theorem rs0 (h : wf b N G) (hs : s < 60) : sp_X4_numberOfSlot N G (nI s) (0 : Int32) = if G s = -1 then -4 else G s := by
  unfold sp_X4_numberOfSlot
  rw [if_neg (iss_in hs), if_pos rfl, xI (show s < 1000 by omega)]
  by_cases c : G s = -1
  · rw [if_pos ((pfree h.sf h.sl hs).mpr c), if_pos c]
  · rw [if_neg (fun q => c ((pfree h.sf h.sl hs).mp q)), if_neg c]
theorem rs1 (hs : s < 60) : sp_X4_numberOfSlot N G (nI s) (1 : Int32) = sp_X2_walkTo (nI s) := by
  unfold sp_X4_numberOfSlot
  rw [if_neg (iss_in hs), if_neg (by decide : ¬ (1 : Int32) = (0 : Int32)), if_pos rfl]
theorem rs2 (hs : s < 60) : sp_X4_numberOfSlot N G (nI s) (2 : Int32) = sp_X2_heaviestAt (nI s) := by
  unfold sp_X4_numberOfSlot
  rw [if_neg (iss_in hs), if_neg (by decide : ¬ (2 : Int32) = (0 : Int32)), if_neg (by decide : ¬ (2 : Int32) = (1 : Int32)), if_pos rfl]
theorem rcw1 : sp_X4_numberOfWarehouse N G (1 : Int32) = sp_X4_placedGoods N G (0 : Int32) := by
  unfold sp_X4_numberOfWarehouse
  rw [if_neg (by decide : ¬ (1 : Int32) = (0 : Int32)), if_pos rfl]
theorem rcw2 : sp_X4_numberOfWarehouse N G (2 : Int32) = N 1 := by
  unfold sp_X4_numberOfWarehouse
  rw [if_neg (by decide : ¬ (2 : Int32) = (0 : Int32)), if_neg (by decide : ¬ (2 : Int32) = (1 : Int32)), if_pos rfl]
theorem rcw3 : sp_X4_numberOfWarehouse N G (3 : Int32) = sp_X4_presentSeason N G := by
  unfold sp_X4_numberOfWarehouse
  rw [if_neg (by decide : ¬ (3 : Int32) = (0 : Int32)), if_neg (by decide : ¬ (3 : Int32) = (1 : Int32)), if_neg (by decide : ¬ (3 : Int32) = (2 : Int32)), if_pos rfl]
theorem rcw4 : sp_X4_numberOfWarehouse N G (4 : Int32) = sp_X4_weeksLeft N G := by
  unfold sp_X4_numberOfWarehouse
  rw [if_neg (by decide : ¬ (4 : Int32) = (0 : Int32)), if_neg (by decide : ¬ (4 : Int32) = (1 : Int32)), if_neg (by decide : ¬ (4 : Int32) = (2 : Int32)), if_neg (by decide : ¬ (4 : Int32) = (3 : Int32)), if_pos rfl]
theorem rcw5 : sp_X4_numberOfWarehouse N G (5 : Int32) = sp_X4_sumOf5 N G := by
  unfold sp_X4_numberOfWarehouse
  rw [if_neg (by decide : ¬ (5 : Int32) = (0 : Int32)), if_neg (by decide : ¬ (5 : Int32) = (1 : Int32)), if_neg (by decide : ¬ (5 : Int32) = (2 : Int32)), if_neg (by decide : ¬ (5 : Int32) = (3 : Int32)), if_neg (by decide : ¬ (5 : Int32) = (4 : Int32)), if_pos rfl]
theorem rcw6 : sp_X4_numberOfWarehouse N G (6 : Int32) = sp_X4_sumOf6 N G := by
  unfold sp_X4_numberOfWarehouse
  rw [if_neg (by decide : ¬ (6 : Int32) = (0 : Int32)), if_neg (by decide : ¬ (6 : Int32) = (1 : Int32)), if_neg (by decide : ¬ (6 : Int32) = (2 : Int32)), if_neg (by decide : ¬ (6 : Int32) = (3 : Int32)), if_neg (by decide : ¬ (6 : Int32) = (4 : Int32)), if_neg (by decide : ¬ (6 : Int32) = (5 : Int32)), if_pos rfl]
theorem rcw7 : sp_X4_numberOfWarehouse N G (7 : Int32) = sp_X4_placedGoods N G (1 : Int32) := by
  unfold sp_X4_numberOfWarehouse
  rw [if_neg (by decide : ¬ (7 : Int32) = (0 : Int32)), if_neg (by decide : ¬ (7 : Int32) = (1 : Int32)), if_neg (by decide : ¬ (7 : Int32) = (2 : Int32)), if_neg (by decide : ¬ (7 : Int32) = (3 : Int32)), if_neg (by decide : ¬ (7 : Int32) = (4 : Int32)), if_neg (by decide : ¬ (7 : Int32) = (5 : Int32)), if_neg (by decide : ¬ (7 : Int32) = (6 : Int32)), if_pos rfl]
theorem ra4 : sp_X4_numberOfAccount N G (4 : Int32) = (100000000 : Int32) + N 9 := by
  unfold sp_X4_numberOfAccount
  rw [if_neg (by decide : ¬ (4 : Int32) = (0 : Int32)), if_neg (by decide : ¬ (4 : Int32) = (1 : Int32)), if_neg (by decide : ¬ (4 : Int32) = (2 : Int32)), if_neg (by decide : ¬ (4 : Int32) = (3 : Int32)), if_pos rfl]
theorem ra5 : sp_X4_numberOfAccount N G (5 : Int32) = (100000000 : Int32) + sp_X4_weeklyWalk N G (sp_X4_presentSeason N G) + N 9 := by
  unfold sp_X4_numberOfAccount
  rw [if_neg (by decide : ¬ (5 : Int32) = (0 : Int32)), if_neg (by decide : ¬ (5 : Int32) = (1 : Int32)), if_neg (by decide : ¬ (5 : Int32) = (2 : Int32)), if_neg (by decide : ¬ (5 : Int32) = (3 : Int32)), if_neg (by decide : ¬ (5 : Int32) = (4 : Int32)), if_pos rfl]
/-- those in slots; those without units; units -/
def plT (N : Nat → Int32) (g : Nat) : Int32 := if N (22 + 11 * g) = -1 then 0 else 1
def emT (N : Nat → Int32) (g : Nat) : Int32 := if N (22 + 11 * g) = -1 then 0 else if N (23 + 11 * g) = 0 then 1 else 0
def u5T (N : Nat → Int32) (g : Nat) : Int32 := N (23 + 11 * g)
def u6T (N : Nat → Int32) (g : Nat) : Int32 := N (24 + 11 * g)
def smN (N : Nat → Int32) (T : (Nat → Int32) → Nat → Int32) : Int32 := sumI (T N) (N 0).toInt.toNat 0
theorem pl0_l (h : wf b N G) : ∀ (k fuel i : Nat) (v : Int32), (N 0).toInt = (i : Int) + (k : Int) → k < fuel → lp4_X4_placedGoods N G (0 : Int32) fuel v (nI i) = v + sumI (plT N) k i := by
  intro k
  induction k with
  | zero =>
    intro fuel i v hk hf
    cases fuel with
    | zero => exact absurd hf (by omega)
    | succ f => rw [lp4_X4_placedGoods_s, if_pos (cend h.sf hk)]; exact (Int32.add_zero v).symm
  | succ k ih =>
    intro fuel i v hk hf
    cases fuel with
    | zero => exact absurd hf (by omega)
    | succ f =>
      obtain ⟨c1, hi⟩ := cgo h.sf hk
      have h20 := h.n20 hi
      rw [lp4_X4_placedGoods_s, if_neg c1]
      have e1 := ih f (i + 1)
      show _ = v + (plT N i + sumI (plT N) k (i + 1))
      rw [← Int32.add_assoc]
      by_cases hp : N (22 + 11 * i) = -1
      · rw [if_pos ((pplaced h20 (h.g hi).p).mpr hp), nI_1, e1 v (by omega) (by omega)]
        have : plT N i = 0 := if_pos hp
        rw [this, Int32.add_zero]
      · rw [if_neg (fun q => hp ((pplaced h20 (h.g hi).p).mp q)), if_pos rfl, nI_1, e1 _ (by omega) (by omega)]
        have : plT N i = 1 := if_neg hp
        rw [this]
theorem pl1_l (h : wf b N G) : ∀ (k fuel i : Nat) (v : Int32), (N 0).toInt = (i : Int) + (k : Int) → k < fuel → lp4_X4_placedGoods N G (1 : Int32) fuel v (nI i) = v + sumI (emT N) k i := by
  intro k
  induction k with
  | zero =>
    intro fuel i v hk hf
    cases fuel with
    | zero => exact absurd hf (by omega)
    | succ f => rw [lp4_X4_placedGoods_s, if_pos (cend h.sf hk)]; exact (Int32.add_zero v).symm
  | succ k ih =>
    intro fuel i v hk hf
    cases fuel with
    | zero => exact absurd hf (by omega)
    | succ f =>
      obtain ⟨c1, hi⟩ := cgo h.sf hk
      have h20 := h.n20 hi
      rw [lp4_X4_placedGoods_s, if_neg c1]
      have e1 := ih f (i + 1)
      show _ = v + (emT N i + sumI (emT N) k (i + 1))
      rw [← Int32.add_assoc]
      by_cases hp : N (22 + 11 * i) = -1
      · rw [if_pos ((pplaced h20 (h.g hi).p).mpr hp), nI_1, e1 v (by omega) (by omega)]
        have : emT N i = 0 := if_pos hp
        rw [this, Int32.add_zero]
      · rw [if_neg (fun q => hp ((pplaced h20 (h.g hi).p).mp q)), if_neg (by decide : ¬ (1 : Int32) = 0), xI (show i < 1000 by omega)]
        have e : emT N i = if N (23 + 11 * i) = 0 then 1 else 0 := if_neg hp
        rw [e]
        by_cases c : N (23 + 11 * i) = 0
        · rw [if_pos c, if_pos c, nI_1, e1 _ (by omega) (by omega)]
        · rw [if_neg c, if_neg c, nI_1, e1 _ (by omega) (by omega), Int32.add_zero]
theorem su5_l (h : wf b N G) : ∀ (k fuel i : Nat) (v : Int32), (N 0).toInt = (i : Int) + (k : Int) → k < fuel → lp4_X4_sumOf5 N G fuel v (nI i) = v + sumI (u5T N) k i := by
  intro k
  induction k with
  | zero =>
    intro fuel i v hk hf
    cases fuel with
    | zero => exact absurd hf (by omega)
    | succ f => rw [lp4_X4_sumOf5_s, if_pos (cend h.sf hk)]; exact (Int32.add_zero v).symm
  | succ k ih =>
    intro fuel i v hk hf
    cases fuel with
    | zero => exact absurd hf (by omega)
    | succ f =>
      obtain ⟨c1, hi⟩ := cgo h.sf hk
      have h20 := h.n20 hi
      rw [lp4_X4_sumOf5_s, if_neg c1]
      have e1 := ih f (i + 1)
      show _ = v + (u5T N i + sumI (u5T N) k (i + 1))
      rw [← Int32.add_assoc]
      rw [if_neg (by rw [le_toInt, tI (by omega), show (20 : Int32).toInt = 20 from by decide]; omega), xI (show i < 1000 by omega), nI_1, e1 _ (by omega) (by omega)]
      rfl
theorem su6_l (h : wf b N G) : ∀ (k fuel i : Nat) (v : Int32), (N 0).toInt = (i : Int) + (k : Int) → k < fuel → lp4_X4_sumOf6 N G fuel v (nI i) = v + sumI (u6T N) k i := by
  intro k
  induction k with
  | zero =>
    intro fuel i v hk hf
    cases fuel with
    | zero => exact absurd hf (by omega)
    | succ f => rw [lp4_X4_sumOf6_s, if_pos (cend h.sf hk)]; exact (Int32.add_zero v).symm
  | succ k ih =>
    intro fuel i v hk hf
    cases fuel with
    | zero => exact absurd hf (by omega)
    | succ f =>
      obtain ⟨c1, hi⟩ := cgo h.sf hk
      have h20 := h.n20 hi
      rw [lp4_X4_sumOf6_s, if_neg c1]
      have e1 := ih f (i + 1)
      show _ = v + (u6T N i + sumI (u6T N) k (i + 1))
      rw [← Int32.add_assoc]
      rw [if_neg (by rw [le_toInt, tI (by omega), show (20 : Int32).toInt = 20 from by decide]; omega), xI (show i < 1000 by omega), nI_1, e1 _ (by omega) (by omega)]
      rfl
theorem pl0 (h : wf b N G) : sp_X4_placedGoods N G (0 : Int32) = smN N plT := by
  have c := cst h.sf
  have e := pl0_l h _ 21 0 0 c.1 c.2
  rw [Int32.zero_add] at e
  exact e
theorem pl1 (h : wf b N G) : sp_X4_placedGoods N G (1 : Int32) = smN N emT := by
  have c := cst h.sf
  have e := pl1_l h _ 21 0 0 c.1 c.2
  rw [Int32.zero_add] at e
  exact e
theorem su5 (h : wf b N G) : sp_X4_sumOf5 N G = smN N u5T := by
  have c := cst h.sf
  have e := su5_l h _ 21 0 0 c.1 c.2
  rw [Int32.zero_add] at e
  exact e
theorem su6 (h : wf b N G) : sp_X4_sumOf6 N G = smN N u6T := by
  have c := cst h.sf
  have e := su6_l h _ 21 0 0 c.1 c.2
  rw [Int32.zero_add] at e
  exact e
/-- the nearest free slot -/
def nrG (N G : Nat → Int32) (i : Nat) (v : Int32) : Prop := ∃ s : Nat, s < 60 ∧ v = nI s ∧ G s = -1 ∧ N (16 + 11 * i) ≤ sp_X2_heaviestAt (nI s)
theorem nr_p (h : wf b N G) (hi : (i : Int) < (N 0).toInt) : ∀ (k fuel s : Nat) (v : Int32), s + k = 60 → k < fuel → (v = -4 ∨ nrG N G i v) →
    (lp15_X4_nearestFreeSlot N G (nI i) fuel v (nI s) = -4 ∧ v = -4 ∧ ∀ t, s ≤ t → t < 60 → ¬ (G t = -1 ∧ N (16 + 11 * i) ≤ sp_X2_heaviestAt (nI t))) ∨ nrG N G i (lp15_X4_nearestFreeSlot N G (nI i) fuel v (nI s)) := by
  have h20 := h.n20 hi
  intro k
  induction k with
  | zero =>
    intro fuel s v hs hf hv
    cases fuel with
    | zero => exact absurd hf (by omega)
    | succ f =>
      rw [lp15_X4_nearestFreeSlot_s, if_pos (by rw [le_toInt, tI (by omega), i60]; omega)]
      rcases hv with hv | hv
      · exact Or.inl ⟨hv, hv, fun t h1 h2 => absurd h2 (by omega)⟩
      · exact Or.inr hv
  | succ k ih =>
    intro fuel s v hs hf hv
    cases fuel with
    | zero => exact absurd hf (by omega)
    | succ f =>
      have hs60 : s < 60 := by omega
      have e1 := ih f (s + 1)
      rw [lp15_X4_nearestFreeSlot_s, if_neg (by rw [le_toInt, tI (by omega), i60]; omega), xI (show s < 1000 by omega), nI_1]
      have skip : ¬ (G s = -1 ∧ N (16 + 11 * i) ≤ sp_X2_heaviestAt (nI s)) → (lp15_X4_nearestFreeSlot N G (nI i) f v (nI (s + 1)) = -4 ∧ v = -4 ∧ ∀ t, s ≤ t → t < 60 → ¬ (G t = -1 ∧ N (16 + 11 * i) ≤ sp_X2_heaviestAt (nI t))) ∨ nrG N G i (lp15_X4_nearestFreeSlot N G (nI i) f v (nI (s + 1))) := by
        intro hn
        rcases e1 v (by omega) (by omega) hv with ⟨q1, q2, q3⟩ | q
        · refine Or.inl ⟨q1, q2, fun t h1 h2 => ?_⟩
          by_cases e : t = s
          · subst e; exact hn
          · exact q3 t (by omega) h2
        · exact Or.inr q
      by_cases c1 : sp_X4_isGood N G (G s) = 0
      · have hG := (pfree h.sf h.sl hs60).mp c1
        rw [if_pos c1]
        by_cases c2 : sp_X4_bears N G (nI s) (nI i) = 0
        · rw [if_pos c2]
          exact skip (fun q => le_bears (G := G) h20 q.2 c2)
        · rw [if_neg c2]
          have hgood : nrG N G i (nI s) := ⟨s, hs60, rfl, hG, bears_le h20 c2⟩
          have take : nrG N G i (lp15_X4_nearestFreeSlot N G (nI i) f (nI s) (nI (s + 1))) := by
            rcases e1 (nI s) (by omega) (by omega) (Or.inr hgood) with ⟨q1, q2, q3⟩ | q
            · exact absurd q2 (fun w => nI_pos (n := s) (by omega) (by rw [w]; decide))
            · exact q
          by_cases c3 : v < 0
          · rw [if_pos c3]; exact Or.inr take
          · rw [if_neg c3]
            by_cases c4 : sp_X2_walkTo v ≤ sp_X2_walkTo (nI s)
            · rw [if_pos c4]
              rcases e1 v (by omega) (by omega) hv with ⟨q1, q2, q3⟩ | q
              · exact absurd q2 (fun w => c3 (by rw [w]; decide))
              · exact Or.inr q
            · rw [if_neg c4]; exact Or.inr take
      · rw [if_neg c1]
        exact skip (fun q => c1 ((pfree h.sf h.sl hs60).mpr q.1))
theorem nr (h : wf b N G) (hi : (i : Int) < (N 0).toInt) : (sp_X4_nearestFreeSlot N G (nI i) = -4 ∧ ∀ t, t < 60 → ¬ (G t = -1 ∧ N (16 + 11 * i) ≤ sp_X2_heaviestAt (nI t))) ∨ nrG N G i (sp_X4_nearestFreeSlot N G (nI i)) := by
  unfold sp_X4_nearestFreeSlot
  rw [if_neg (isg_in h.sf hi)]
  rcases nr_p h hi 60 61 0 (-4) (by omega) (by omega) (Or.inl rfl) with ⟨q1, q2, q3⟩ | q
  · exact Or.inl ⟨q1, fun t ht => q3 t (by omega) ht⟩
  · exact Or.inr q
theorem gh_T : ∀ s, s < 60 → ∀ w, w < 41 → nI w ≤ sp_X2_heaviestAt (nI s) → nI s - nI s / (6 : Int32) * (6 : Int32) ≤ sp_X2_greatestHeightFor (nI w) := by decide +kernel
theorem gh_le (h : wf b N G) (hi : (i : Int) < (N 0).toInt) (hs : s < 60) (c : N (16 + 11 * i) ≤ sp_X2_heaviestAt (nI s)) : nI s - nI s / (6 : Int32) * (6 : Int32) ≤ sp_X2_greatestHeightFor (N (16 + 11 * i)) := by
  obtain ⟨w, hw, e⟩ := nat_of (n := 40) (x := N (16 + 11 * i)) (by have := (h.g hi).w; omega) (h.g hi).w.2
  rw [e] at c ⊢
  exact gh_T s hs w (by omega) c
theorem sea_e (h : sfN N) : nI (sea N) = N 1 / (13 : Int32) - N 1 / (13 : Int32) / (4 : Int32) * (4 : Int32) := (psea4 (G := N) h).symm
end RD
