/-! worlds: what the cells are (printed by wip/whole/gen_worlds.py) -/
def zu (Z : Nat → Nat → Int32) (c k : Nat) (x : Int32) : Nat → Nat → Int32 := fun d => if d = c then upd (Z c) k x else Z d
theorem zu_s {Z : Nat → Nat → Int32} {c k : Nat} {x : Int32} : zu Z c k x c = upd (Z c) k x := if_pos rfl
theorem zu_n {Z : Nat → Nat → Int32} {c d k : Nat} {x : Int32} (h : d ≠ c) : zu Z c k x d = Z d := if_neg h
/-- a warehouse: the row N of numbers (16 + 11 g + w: w of the good g), the goods of the slots G -/
def wg (cI : ClassId) (a : Nat → Nat) (N G : Nat → Int32) : va_W := [(a 0, .inr (3, [.ref (a 1), .ref (a 2), .ref (a 3), .ref (a 4), .ref (a 5), .ref (a 6), .ref (a 7), .ref (a 8), .ref (a 9), .ref (a 10), .ref (a 11), .int (N 0), .int (N 1)])), (a 1, .inl (cI, 20, .inl (fun g => N (16 + 11 * g)))), (a 2, .inl (cI, 20, .inl (fun g => N (17 + 11 * g)))), (a 3, .inl (cI, 80, .inl (fun j => N (18 + 11 * (j / 4) + j % 4)))), (a 4, .inl (cI, 20, .inl (fun g => N (22 + 11 * g)))), (a 5, .inl (cI, 20, .inl (fun g => N (23 + 11 * g)))), (a 6, .inl (cI, 20, .inl (fun g => N (24 + 11 * g)))), (a 7, .inl (cI, 20, .inl (fun g => N (25 + 11 * g)))), (a 8, .inl (cI, 20, .inl (fun g => N (26 + 11 * g)))), (a 9, .inl (cI, 60, .inl (G))), (a 10, .inl (cI, 3, .inl (fun k => if k < 3 then N (2 + k) else 0))), (a 11, .inr (0, [.int (N 5), .int (N 6), .int (N 7), .int (N 8), .int (N 9), .int (N 11), .int (N 12)]))]
theorem wg_0 {cI : ClassId} {a : Nat → Nat} {N G : Nat → Int32} : (wg cI a N G)[0]? = some (a 0, .inr (3, [.ref (a 1), .ref (a 2), .ref (a 3), .ref (a 4), .ref (a 5), .ref (a 6), .ref (a 7), .ref (a 8), .ref (a 9), .ref (a 10), .ref (a 11), .int (N 0), .int (N 1)])) := rfl
theorem wg_1 {cI : ClassId} {a : Nat → Nat} {N G : Nat → Int32} : (wg cI a N G)[1]? = some (a 1, .inl (cI, 20, .inl (fun g => N (16 + 11 * g)))) := rfl
theorem wg_2 {cI : ClassId} {a : Nat → Nat} {N G : Nat → Int32} : (wg cI a N G)[2]? = some (a 2, .inl (cI, 20, .inl (fun g => N (17 + 11 * g)))) := rfl
theorem wg_3 {cI : ClassId} {a : Nat → Nat} {N G : Nat → Int32} : (wg cI a N G)[3]? = some (a 3, .inl (cI, 80, .inl (fun j => N (18 + 11 * (j / 4) + j % 4)))) := rfl
theorem wg_4 {cI : ClassId} {a : Nat → Nat} {N G : Nat → Int32} : (wg cI a N G)[4]? = some (a 4, .inl (cI, 20, .inl (fun g => N (22 + 11 * g)))) := rfl
theorem wg_5 {cI : ClassId} {a : Nat → Nat} {N G : Nat → Int32} : (wg cI a N G)[5]? = some (a 5, .inl (cI, 20, .inl (fun g => N (23 + 11 * g)))) := rfl
theorem wg_6 {cI : ClassId} {a : Nat → Nat} {N G : Nat → Int32} : (wg cI a N G)[6]? = some (a 6, .inl (cI, 20, .inl (fun g => N (24 + 11 * g)))) := rfl
theorem wg_7 {cI : ClassId} {a : Nat → Nat} {N G : Nat → Int32} : (wg cI a N G)[7]? = some (a 7, .inl (cI, 20, .inl (fun g => N (25 + 11 * g)))) := rfl
theorem wg_8 {cI : ClassId} {a : Nat → Nat} {N G : Nat → Int32} : (wg cI a N G)[8]? = some (a 8, .inl (cI, 20, .inl (fun g => N (26 + 11 * g)))) := rfl
theorem wg_9 {cI : ClassId} {a : Nat → Nat} {N G : Nat → Int32} : (wg cI a N G)[9]? = some (a 9, .inl (cI, 60, .inl (G))) := rfl
theorem wg_10 {cI : ClassId} {a : Nat → Nat} {N G : Nat → Int32} : (wg cI a N G)[10]? = some (a 10, .inl (cI, 3, .inl (fun k => if k < 3 then N (2 + k) else 0))) := rfl
theorem wg_11 {cI : ClassId} {a : Nat → Nat} {N G : Nat → Int32} : (wg cI a N G)[11]? = some (a 11, .inr (0, [.int (N 5), .int (N 6), .int (N 7), .int (N 8), .int (N 9), .int (N 11), .int (N 12)])) := rfl
theorem wg_s1 {cI : ClassId} {a : Nat → Nat} {N G : Nat → Int32} (i : Nat) (x : Int32) : (wg cI a N G).set 1 (a 1, .inl (cI, 20, .inl (upd (fun g => N (16 + 11 * g)) i x))) = wg cI a (upd N (16 + 11 * i) x) G := by
  have e1 : (upd (fun g => N (16 + 11 * g)) i x) = (fun g => upd N (16 + 11 * i) x (16 + 11 * g)) := by
    funext g
    by_cases h : g = i
    · subst h; simp [upd]
    · have h2 : ¬ (16 + 11 * g = 16 + 11 * i) := by omega
      simp only [upd, if_neg h, if_neg h2]
  have e2 : (fun g => upd N (16 + 11 * i) x (17 + 11 * g)) = (fun g => N (17 + 11 * g)) := funext fun g => if_neg (by omega)
  have e3 : (fun j => upd N (16 + 11 * i) x (18 + 11 * (j / 4) + j % 4)) = (fun j => N (18 + 11 * (j / 4) + j % 4)) := funext fun j => if_neg (by omega)
  have e4 : (fun g => upd N (16 + 11 * i) x (22 + 11 * g)) = (fun g => N (22 + 11 * g)) := funext fun g => if_neg (by omega)
  have e5 : (fun g => upd N (16 + 11 * i) x (23 + 11 * g)) = (fun g => N (23 + 11 * g)) := funext fun g => if_neg (by omega)
  have e6 : (fun g => upd N (16 + 11 * i) x (24 + 11 * g)) = (fun g => N (24 + 11 * g)) := funext fun g => if_neg (by omega)
  have e7 : (fun g => upd N (16 + 11 * i) x (25 + 11 * g)) = (fun g => N (25 + 11 * g)) := funext fun g => if_neg (by omega)
  have e8 : (fun g => upd N (16 + 11 * i) x (26 + 11 * g)) = (fun g => N (26 + 11 * g)) := funext fun g => if_neg (by omega)
  have e10 : (fun k => if k < 3 then upd N (16 + 11 * i) x (2 + k) else 0) = (fun k => if k < 3 then N (2 + k) else 0) := by
    funext k
    by_cases h : k < 3
    · rw [if_pos h, if_pos h]; exact if_neg (by omega)
    · rw [if_neg h, if_neg h]
  have n0 : upd N (16 + 11 * i) x 0 = N 0 := if_neg (by omega)
  have n1 : upd N (16 + 11 * i) x 1 = N 1 := if_neg (by omega)
  have n5 : upd N (16 + 11 * i) x 5 = N 5 := if_neg (by omega)
  have n6 : upd N (16 + 11 * i) x 6 = N 6 := if_neg (by omega)
  have n7 : upd N (16 + 11 * i) x 7 = N 7 := if_neg (by omega)
  have n8 : upd N (16 + 11 * i) x 8 = N 8 := if_neg (by omega)
  have n9 : upd N (16 + 11 * i) x 9 = N 9 := if_neg (by omega)
  have n11 : upd N (16 + 11 * i) x 11 = N 11 := if_neg (by omega)
  have n12 : upd N (16 + 11 * i) x 12 = N 12 := if_neg (by omega)
  unfold wg
  rw [e1, e2, e3, e4, e5, e6, e7, e8, e10, n0, n1, n5, n6, n7, n8, n9, n11, n12]
  rfl
theorem wg_s2 {cI : ClassId} {a : Nat → Nat} {N G : Nat → Int32} (i : Nat) (x : Int32) : (wg cI a N G).set 2 (a 2, .inl (cI, 20, .inl (upd (fun g => N (17 + 11 * g)) i x))) = wg cI a (upd N (17 + 11 * i) x) G := by
  have e1 : (fun g => upd N (17 + 11 * i) x (16 + 11 * g)) = (fun g => N (16 + 11 * g)) := funext fun g => if_neg (by omega)
  have e2 : (upd (fun g => N (17 + 11 * g)) i x) = (fun g => upd N (17 + 11 * i) x (17 + 11 * g)) := by
    funext g
    by_cases h : g = i
    · subst h; simp [upd]
    · have h2 : ¬ (17 + 11 * g = 17 + 11 * i) := by omega
      simp only [upd, if_neg h, if_neg h2]
  have e3 : (fun j => upd N (17 + 11 * i) x (18 + 11 * (j / 4) + j % 4)) = (fun j => N (18 + 11 * (j / 4) + j % 4)) := funext fun j => if_neg (by omega)
  have e4 : (fun g => upd N (17 + 11 * i) x (22 + 11 * g)) = (fun g => N (22 + 11 * g)) := funext fun g => if_neg (by omega)
  have e5 : (fun g => upd N (17 + 11 * i) x (23 + 11 * g)) = (fun g => N (23 + 11 * g)) := funext fun g => if_neg (by omega)
  have e6 : (fun g => upd N (17 + 11 * i) x (24 + 11 * g)) = (fun g => N (24 + 11 * g)) := funext fun g => if_neg (by omega)
  have e7 : (fun g => upd N (17 + 11 * i) x (25 + 11 * g)) = (fun g => N (25 + 11 * g)) := funext fun g => if_neg (by omega)
  have e8 : (fun g => upd N (17 + 11 * i) x (26 + 11 * g)) = (fun g => N (26 + 11 * g)) := funext fun g => if_neg (by omega)
  have e10 : (fun k => if k < 3 then upd N (17 + 11 * i) x (2 + k) else 0) = (fun k => if k < 3 then N (2 + k) else 0) := by
    funext k
    by_cases h : k < 3
    · rw [if_pos h, if_pos h]; exact if_neg (by omega)
    · rw [if_neg h, if_neg h]
  have n0 : upd N (17 + 11 * i) x 0 = N 0 := if_neg (by omega)
  have n1 : upd N (17 + 11 * i) x 1 = N 1 := if_neg (by omega)
  have n5 : upd N (17 + 11 * i) x 5 = N 5 := if_neg (by omega)
  have n6 : upd N (17 + 11 * i) x 6 = N 6 := if_neg (by omega)
  have n7 : upd N (17 + 11 * i) x 7 = N 7 := if_neg (by omega)
  have n8 : upd N (17 + 11 * i) x 8 = N 8 := if_neg (by omega)
  have n9 : upd N (17 + 11 * i) x 9 = N 9 := if_neg (by omega)
  have n11 : upd N (17 + 11 * i) x 11 = N 11 := if_neg (by omega)
  have n12 : upd N (17 + 11 * i) x 12 = N 12 := if_neg (by omega)
  unfold wg
  rw [e1, e2, e3, e4, e5, e6, e7, e8, e10, n0, n1, n5, n6, n7, n8, n9, n11, n12]
  rfl
theorem wg_s3 {cI : ClassId} {a : Nat → Nat} {N G : Nat → Int32} (i : Nat) (x : Int32) : (wg cI a N G).set 3 (a 3, .inl (cI, 80, .inl (upd (fun j => N (18 + 11 * (j / 4) + j % 4)) i x))) = wg cI a (upd N (18 + 11 * (i / 4) + i % 4) x) G := by
  have e1 : (fun g => upd N (18 + 11 * (i / 4) + i % 4) x (16 + 11 * g)) = (fun g => N (16 + 11 * g)) := funext fun g => if_neg (by omega)
  have e2 : (fun g => upd N (18 + 11 * (i / 4) + i % 4) x (17 + 11 * g)) = (fun g => N (17 + 11 * g)) := funext fun g => if_neg (by omega)
  have e3 : (upd (fun j => N (18 + 11 * (j / 4) + j % 4)) i x) = (fun j => upd N (18 + 11 * (i / 4) + i % 4) x (18 + 11 * (j / 4) + j % 4)) := by
    funext j
    by_cases h : j = i
    · subst h; simp [upd]
    · have h2 : ¬ (18 + 11 * (j / 4) + j % 4 = 18 + 11 * (i / 4) + i % 4) := by omega
      simp only [upd, if_neg h, if_neg h2]
  have e4 : (fun g => upd N (18 + 11 * (i / 4) + i % 4) x (22 + 11 * g)) = (fun g => N (22 + 11 * g)) := funext fun g => if_neg (by omega)
  have e5 : (fun g => upd N (18 + 11 * (i / 4) + i % 4) x (23 + 11 * g)) = (fun g => N (23 + 11 * g)) := funext fun g => if_neg (by omega)
  have e6 : (fun g => upd N (18 + 11 * (i / 4) + i % 4) x (24 + 11 * g)) = (fun g => N (24 + 11 * g)) := funext fun g => if_neg (by omega)
  have e7 : (fun g => upd N (18 + 11 * (i / 4) + i % 4) x (25 + 11 * g)) = (fun g => N (25 + 11 * g)) := funext fun g => if_neg (by omega)
  have e8 : (fun g => upd N (18 + 11 * (i / 4) + i % 4) x (26 + 11 * g)) = (fun g => N (26 + 11 * g)) := funext fun g => if_neg (by omega)
  have e10 : (fun k => if k < 3 then upd N (18 + 11 * (i / 4) + i % 4) x (2 + k) else 0) = (fun k => if k < 3 then N (2 + k) else 0) := by
    funext k
    by_cases h : k < 3
    · rw [if_pos h, if_pos h]; exact if_neg (by omega)
    · rw [if_neg h, if_neg h]
  have n0 : upd N (18 + 11 * (i / 4) + i % 4) x 0 = N 0 := if_neg (by omega)
  have n1 : upd N (18 + 11 * (i / 4) + i % 4) x 1 = N 1 := if_neg (by omega)
  have n5 : upd N (18 + 11 * (i / 4) + i % 4) x 5 = N 5 := if_neg (by omega)
  have n6 : upd N (18 + 11 * (i / 4) + i % 4) x 6 = N 6 := if_neg (by omega)
  have n7 : upd N (18 + 11 * (i / 4) + i % 4) x 7 = N 7 := if_neg (by omega)
  have n8 : upd N (18 + 11 * (i / 4) + i % 4) x 8 = N 8 := if_neg (by omega)
  have n9 : upd N (18 + 11 * (i / 4) + i % 4) x 9 = N 9 := if_neg (by omega)
  have n11 : upd N (18 + 11 * (i / 4) + i % 4) x 11 = N 11 := if_neg (by omega)
  have n12 : upd N (18 + 11 * (i / 4) + i % 4) x 12 = N 12 := if_neg (by omega)
  unfold wg
  rw [e1, e2, e3, e4, e5, e6, e7, e8, e10, n0, n1, n5, n6, n7, n8, n9, n11, n12]
  rfl
theorem wg_s4 {cI : ClassId} {a : Nat → Nat} {N G : Nat → Int32} (i : Nat) (x : Int32) : (wg cI a N G).set 4 (a 4, .inl (cI, 20, .inl (upd (fun g => N (22 + 11 * g)) i x))) = wg cI a (upd N (22 + 11 * i) x) G := by
  have e1 : (fun g => upd N (22 + 11 * i) x (16 + 11 * g)) = (fun g => N (16 + 11 * g)) := funext fun g => if_neg (by omega)
  have e2 : (fun g => upd N (22 + 11 * i) x (17 + 11 * g)) = (fun g => N (17 + 11 * g)) := funext fun g => if_neg (by omega)
  have e3 : (fun j => upd N (22 + 11 * i) x (18 + 11 * (j / 4) + j % 4)) = (fun j => N (18 + 11 * (j / 4) + j % 4)) := funext fun j => if_neg (by omega)
  have e4 : (upd (fun g => N (22 + 11 * g)) i x) = (fun g => upd N (22 + 11 * i) x (22 + 11 * g)) := by
    funext g
    by_cases h : g = i
    · subst h; simp [upd]
    · have h2 : ¬ (22 + 11 * g = 22 + 11 * i) := by omega
      simp only [upd, if_neg h, if_neg h2]
  have e5 : (fun g => upd N (22 + 11 * i) x (23 + 11 * g)) = (fun g => N (23 + 11 * g)) := funext fun g => if_neg (by omega)
  have e6 : (fun g => upd N (22 + 11 * i) x (24 + 11 * g)) = (fun g => N (24 + 11 * g)) := funext fun g => if_neg (by omega)
  have e7 : (fun g => upd N (22 + 11 * i) x (25 + 11 * g)) = (fun g => N (25 + 11 * g)) := funext fun g => if_neg (by omega)
  have e8 : (fun g => upd N (22 + 11 * i) x (26 + 11 * g)) = (fun g => N (26 + 11 * g)) := funext fun g => if_neg (by omega)
  have e10 : (fun k => if k < 3 then upd N (22 + 11 * i) x (2 + k) else 0) = (fun k => if k < 3 then N (2 + k) else 0) := by
    funext k
    by_cases h : k < 3
    · rw [if_pos h, if_pos h]; exact if_neg (by omega)
    · rw [if_neg h, if_neg h]
  have n0 : upd N (22 + 11 * i) x 0 = N 0 := if_neg (by omega)
  have n1 : upd N (22 + 11 * i) x 1 = N 1 := if_neg (by omega)
  have n5 : upd N (22 + 11 * i) x 5 = N 5 := if_neg (by omega)
  have n6 : upd N (22 + 11 * i) x 6 = N 6 := if_neg (by omega)
  have n7 : upd N (22 + 11 * i) x 7 = N 7 := if_neg (by omega)
  have n8 : upd N (22 + 11 * i) x 8 = N 8 := if_neg (by omega)
  have n9 : upd N (22 + 11 * i) x 9 = N 9 := if_neg (by omega)
  have n11 : upd N (22 + 11 * i) x 11 = N 11 := if_neg (by omega)
  have n12 : upd N (22 + 11 * i) x 12 = N 12 := if_neg (by omega)
  unfold wg
  rw [e1, e2, e3, e4, e5, e6, e7, e8, e10, n0, n1, n5, n6, n7, n8, n9, n11, n12]
  rfl
theorem wg_s5 {cI : ClassId} {a : Nat → Nat} {N G : Nat → Int32} (i : Nat) (x : Int32) : (wg cI a N G).set 5 (a 5, .inl (cI, 20, .inl (upd (fun g => N (23 + 11 * g)) i x))) = wg cI a (upd N (23 + 11 * i) x) G := by
  have e1 : (fun g => upd N (23 + 11 * i) x (16 + 11 * g)) = (fun g => N (16 + 11 * g)) := funext fun g => if_neg (by omega)
  have e2 : (fun g => upd N (23 + 11 * i) x (17 + 11 * g)) = (fun g => N (17 + 11 * g)) := funext fun g => if_neg (by omega)
  have e3 : (fun j => upd N (23 + 11 * i) x (18 + 11 * (j / 4) + j % 4)) = (fun j => N (18 + 11 * (j / 4) + j % 4)) := funext fun j => if_neg (by omega)
  have e4 : (fun g => upd N (23 + 11 * i) x (22 + 11 * g)) = (fun g => N (22 + 11 * g)) := funext fun g => if_neg (by omega)
  have e5 : (upd (fun g => N (23 + 11 * g)) i x) = (fun g => upd N (23 + 11 * i) x (23 + 11 * g)) := by
    funext g
    by_cases h : g = i
    · subst h; simp [upd]
    · have h2 : ¬ (23 + 11 * g = 23 + 11 * i) := by omega
      simp only [upd, if_neg h, if_neg h2]
  have e6 : (fun g => upd N (23 + 11 * i) x (24 + 11 * g)) = (fun g => N (24 + 11 * g)) := funext fun g => if_neg (by omega)
  have e7 : (fun g => upd N (23 + 11 * i) x (25 + 11 * g)) = (fun g => N (25 + 11 * g)) := funext fun g => if_neg (by omega)
  have e8 : (fun g => upd N (23 + 11 * i) x (26 + 11 * g)) = (fun g => N (26 + 11 * g)) := funext fun g => if_neg (by omega)
  have e10 : (fun k => if k < 3 then upd N (23 + 11 * i) x (2 + k) else 0) = (fun k => if k < 3 then N (2 + k) else 0) := by
    funext k
    by_cases h : k < 3
    · rw [if_pos h, if_pos h]; exact if_neg (by omega)
    · rw [if_neg h, if_neg h]
  have n0 : upd N (23 + 11 * i) x 0 = N 0 := if_neg (by omega)
  have n1 : upd N (23 + 11 * i) x 1 = N 1 := if_neg (by omega)
  have n5 : upd N (23 + 11 * i) x 5 = N 5 := if_neg (by omega)
  have n6 : upd N (23 + 11 * i) x 6 = N 6 := if_neg (by omega)
  have n7 : upd N (23 + 11 * i) x 7 = N 7 := if_neg (by omega)
  have n8 : upd N (23 + 11 * i) x 8 = N 8 := if_neg (by omega)
  have n9 : upd N (23 + 11 * i) x 9 = N 9 := if_neg (by omega)
  have n11 : upd N (23 + 11 * i) x 11 = N 11 := if_neg (by omega)
  have n12 : upd N (23 + 11 * i) x 12 = N 12 := if_neg (by omega)
  unfold wg
  rw [e1, e2, e3, e4, e5, e6, e7, e8, e10, n0, n1, n5, n6, n7, n8, n9, n11, n12]
  rfl
theorem wg_s6 {cI : ClassId} {a : Nat → Nat} {N G : Nat → Int32} (i : Nat) (x : Int32) : (wg cI a N G).set 6 (a 6, .inl (cI, 20, .inl (upd (fun g => N (24 + 11 * g)) i x))) = wg cI a (upd N (24 + 11 * i) x) G := by
  have e1 : (fun g => upd N (24 + 11 * i) x (16 + 11 * g)) = (fun g => N (16 + 11 * g)) := funext fun g => if_neg (by omega)
  have e2 : (fun g => upd N (24 + 11 * i) x (17 + 11 * g)) = (fun g => N (17 + 11 * g)) := funext fun g => if_neg (by omega)
  have e3 : (fun j => upd N (24 + 11 * i) x (18 + 11 * (j / 4) + j % 4)) = (fun j => N (18 + 11 * (j / 4) + j % 4)) := funext fun j => if_neg (by omega)
  have e4 : (fun g => upd N (24 + 11 * i) x (22 + 11 * g)) = (fun g => N (22 + 11 * g)) := funext fun g => if_neg (by omega)
  have e5 : (fun g => upd N (24 + 11 * i) x (23 + 11 * g)) = (fun g => N (23 + 11 * g)) := funext fun g => if_neg (by omega)
  have e6 : (upd (fun g => N (24 + 11 * g)) i x) = (fun g => upd N (24 + 11 * i) x (24 + 11 * g)) := by
    funext g
    by_cases h : g = i
    · subst h; simp [upd]
    · have h2 : ¬ (24 + 11 * g = 24 + 11 * i) := by omega
      simp only [upd, if_neg h, if_neg h2]
  have e7 : (fun g => upd N (24 + 11 * i) x (25 + 11 * g)) = (fun g => N (25 + 11 * g)) := funext fun g => if_neg (by omega)
  have e8 : (fun g => upd N (24 + 11 * i) x (26 + 11 * g)) = (fun g => N (26 + 11 * g)) := funext fun g => if_neg (by omega)
  have e10 : (fun k => if k < 3 then upd N (24 + 11 * i) x (2 + k) else 0) = (fun k => if k < 3 then N (2 + k) else 0) := by
    funext k
    by_cases h : k < 3
    · rw [if_pos h, if_pos h]; exact if_neg (by omega)
    · rw [if_neg h, if_neg h]
  have n0 : upd N (24 + 11 * i) x 0 = N 0 := if_neg (by omega)
  have n1 : upd N (24 + 11 * i) x 1 = N 1 := if_neg (by omega)
  have n5 : upd N (24 + 11 * i) x 5 = N 5 := if_neg (by omega)
  have n6 : upd N (24 + 11 * i) x 6 = N 6 := if_neg (by omega)
  have n7 : upd N (24 + 11 * i) x 7 = N 7 := if_neg (by omega)
  have n8 : upd N (24 + 11 * i) x 8 = N 8 := if_neg (by omega)
  have n9 : upd N (24 + 11 * i) x 9 = N 9 := if_neg (by omega)
  have n11 : upd N (24 + 11 * i) x 11 = N 11 := if_neg (by omega)
  have n12 : upd N (24 + 11 * i) x 12 = N 12 := if_neg (by omega)
  unfold wg
  rw [e1, e2, e3, e4, e5, e6, e7, e8, e10, n0, n1, n5, n6, n7, n8, n9, n11, n12]
  rfl
theorem wg_s7 {cI : ClassId} {a : Nat → Nat} {N G : Nat → Int32} (i : Nat) (x : Int32) : (wg cI a N G).set 7 (a 7, .inl (cI, 20, .inl (upd (fun g => N (25 + 11 * g)) i x))) = wg cI a (upd N (25 + 11 * i) x) G := by
  have e1 : (fun g => upd N (25 + 11 * i) x (16 + 11 * g)) = (fun g => N (16 + 11 * g)) := funext fun g => if_neg (by omega)
  have e2 : (fun g => upd N (25 + 11 * i) x (17 + 11 * g)) = (fun g => N (17 + 11 * g)) := funext fun g => if_neg (by omega)
  have e3 : (fun j => upd N (25 + 11 * i) x (18 + 11 * (j / 4) + j % 4)) = (fun j => N (18 + 11 * (j / 4) + j % 4)) := funext fun j => if_neg (by omega)
  have e4 : (fun g => upd N (25 + 11 * i) x (22 + 11 * g)) = (fun g => N (22 + 11 * g)) := funext fun g => if_neg (by omega)
  have e5 : (fun g => upd N (25 + 11 * i) x (23 + 11 * g)) = (fun g => N (23 + 11 * g)) := funext fun g => if_neg (by omega)
  have e6 : (fun g => upd N (25 + 11 * i) x (24 + 11 * g)) = (fun g => N (24 + 11 * g)) := funext fun g => if_neg (by omega)
  have e7 : (upd (fun g => N (25 + 11 * g)) i x) = (fun g => upd N (25 + 11 * i) x (25 + 11 * g)) := by
    funext g
    by_cases h : g = i
    · subst h; simp [upd]
    · have h2 : ¬ (25 + 11 * g = 25 + 11 * i) := by omega
      simp only [upd, if_neg h, if_neg h2]
  have e8 : (fun g => upd N (25 + 11 * i) x (26 + 11 * g)) = (fun g => N (26 + 11 * g)) := funext fun g => if_neg (by omega)
  have e10 : (fun k => if k < 3 then upd N (25 + 11 * i) x (2 + k) else 0) = (fun k => if k < 3 then N (2 + k) else 0) := by
    funext k
    by_cases h : k < 3
    · rw [if_pos h, if_pos h]; exact if_neg (by omega)
    · rw [if_neg h, if_neg h]
  have n0 : upd N (25 + 11 * i) x 0 = N 0 := if_neg (by omega)
  have n1 : upd N (25 + 11 * i) x 1 = N 1 := if_neg (by omega)
  have n5 : upd N (25 + 11 * i) x 5 = N 5 := if_neg (by omega)
  have n6 : upd N (25 + 11 * i) x 6 = N 6 := if_neg (by omega)
  have n7 : upd N (25 + 11 * i) x 7 = N 7 := if_neg (by omega)
  have n8 : upd N (25 + 11 * i) x 8 = N 8 := if_neg (by omega)
  have n9 : upd N (25 + 11 * i) x 9 = N 9 := if_neg (by omega)
  have n11 : upd N (25 + 11 * i) x 11 = N 11 := if_neg (by omega)
  have n12 : upd N (25 + 11 * i) x 12 = N 12 := if_neg (by omega)
  unfold wg
  rw [e1, e2, e3, e4, e5, e6, e7, e8, e10, n0, n1, n5, n6, n7, n8, n9, n11, n12]
  rfl
theorem wg_s8 {cI : ClassId} {a : Nat → Nat} {N G : Nat → Int32} (i : Nat) (x : Int32) : (wg cI a N G).set 8 (a 8, .inl (cI, 20, .inl (upd (fun g => N (26 + 11 * g)) i x))) = wg cI a (upd N (26 + 11 * i) x) G := by
  have e1 : (fun g => upd N (26 + 11 * i) x (16 + 11 * g)) = (fun g => N (16 + 11 * g)) := funext fun g => if_neg (by omega)
  have e2 : (fun g => upd N (26 + 11 * i) x (17 + 11 * g)) = (fun g => N (17 + 11 * g)) := funext fun g => if_neg (by omega)
  have e3 : (fun j => upd N (26 + 11 * i) x (18 + 11 * (j / 4) + j % 4)) = (fun j => N (18 + 11 * (j / 4) + j % 4)) := funext fun j => if_neg (by omega)
  have e4 : (fun g => upd N (26 + 11 * i) x (22 + 11 * g)) = (fun g => N (22 + 11 * g)) := funext fun g => if_neg (by omega)
  have e5 : (fun g => upd N (26 + 11 * i) x (23 + 11 * g)) = (fun g => N (23 + 11 * g)) := funext fun g => if_neg (by omega)
  have e6 : (fun g => upd N (26 + 11 * i) x (24 + 11 * g)) = (fun g => N (24 + 11 * g)) := funext fun g => if_neg (by omega)
  have e7 : (fun g => upd N (26 + 11 * i) x (25 + 11 * g)) = (fun g => N (25 + 11 * g)) := funext fun g => if_neg (by omega)
  have e8 : (upd (fun g => N (26 + 11 * g)) i x) = (fun g => upd N (26 + 11 * i) x (26 + 11 * g)) := by
    funext g
    by_cases h : g = i
    · subst h; simp [upd]
    · have h2 : ¬ (26 + 11 * g = 26 + 11 * i) := by omega
      simp only [upd, if_neg h, if_neg h2]
  have e10 : (fun k => if k < 3 then upd N (26 + 11 * i) x (2 + k) else 0) = (fun k => if k < 3 then N (2 + k) else 0) := by
    funext k
    by_cases h : k < 3
    · rw [if_pos h, if_pos h]; exact if_neg (by omega)
    · rw [if_neg h, if_neg h]
  have n0 : upd N (26 + 11 * i) x 0 = N 0 := if_neg (by omega)
  have n1 : upd N (26 + 11 * i) x 1 = N 1 := if_neg (by omega)
  have n5 : upd N (26 + 11 * i) x 5 = N 5 := if_neg (by omega)
  have n6 : upd N (26 + 11 * i) x 6 = N 6 := if_neg (by omega)
  have n7 : upd N (26 + 11 * i) x 7 = N 7 := if_neg (by omega)
  have n8 : upd N (26 + 11 * i) x 8 = N 8 := if_neg (by omega)
  have n9 : upd N (26 + 11 * i) x 9 = N 9 := if_neg (by omega)
  have n11 : upd N (26 + 11 * i) x 11 = N 11 := if_neg (by omega)
  have n12 : upd N (26 + 11 * i) x 12 = N 12 := if_neg (by omega)
  unfold wg
  rw [e1, e2, e3, e4, e5, e6, e7, e8, e10, n0, n1, n5, n6, n7, n8, n9, n11, n12]
  rfl
theorem wg_s10 {cI : ClassId} {a : Nat → Nat} {N G : Nat → Int32} (i : Nat) (hi : i < 3) (x : Int32) : (wg cI a N G).set 10 (a 10, .inl (cI, 3, .inl (upd (fun k => if k < 3 then N (2 + k) else 0) i x))) = wg cI a (upd N (2 + i) x) G := by
  have e1 : (fun g => upd N (2 + i) x (16 + 11 * g)) = (fun g => N (16 + 11 * g)) := funext fun g => if_neg (by omega)
  have e2 : (fun g => upd N (2 + i) x (17 + 11 * g)) = (fun g => N (17 + 11 * g)) := funext fun g => if_neg (by omega)
  have e3 : (fun j => upd N (2 + i) x (18 + 11 * (j / 4) + j % 4)) = (fun j => N (18 + 11 * (j / 4) + j % 4)) := funext fun j => if_neg (by omega)
  have e4 : (fun g => upd N (2 + i) x (22 + 11 * g)) = (fun g => N (22 + 11 * g)) := funext fun g => if_neg (by omega)
  have e5 : (fun g => upd N (2 + i) x (23 + 11 * g)) = (fun g => N (23 + 11 * g)) := funext fun g => if_neg (by omega)
  have e6 : (fun g => upd N (2 + i) x (24 + 11 * g)) = (fun g => N (24 + 11 * g)) := funext fun g => if_neg (by omega)
  have e7 : (fun g => upd N (2 + i) x (25 + 11 * g)) = (fun g => N (25 + 11 * g)) := funext fun g => if_neg (by omega)
  have e8 : (fun g => upd N (2 + i) x (26 + 11 * g)) = (fun g => N (26 + 11 * g)) := funext fun g => if_neg (by omega)
  have e10 : (upd (fun k => if k < 3 then N (2 + k) else 0) i x) = (fun k => if k < 3 then upd N (2 + i) x (2 + k) else 0) := by
    funext k
    by_cases h : k = i
    · subst h; simp [upd, hi]
    · have h2 : ¬ (2 + k = 2 + i) := by omega
      simp only [upd, if_neg h, if_neg h2]
  have n0 : upd N (2 + i) x 0 = N 0 := if_neg (by omega)
  have n1 : upd N (2 + i) x 1 = N 1 := if_neg (by omega)
  have n5 : upd N (2 + i) x 5 = N 5 := if_neg (by omega)
  have n6 : upd N (2 + i) x 6 = N 6 := if_neg (by omega)
  have n7 : upd N (2 + i) x 7 = N 7 := if_neg (by omega)
  have n8 : upd N (2 + i) x 8 = N 8 := if_neg (by omega)
  have n9 : upd N (2 + i) x 9 = N 9 := if_neg (by omega)
  have n11 : upd N (2 + i) x 11 = N 11 := if_neg (by omega)
  have n12 : upd N (2 + i) x 12 = N 12 := if_neg (by omega)
  unfold wg
  rw [e1, e2, e3, e4, e5, e6, e7, e8, e10, n0, n1, n5, n6, n7, n8, n9, n11, n12]
  rfl
theorem ix_lt {i : Int32} {n : Nat} (h : vp_in i n) : ix i < n := by
  show i.toNatClampNeg < n
  unfold vp_in at h
  omega
theorem wg_rd10 {N : Nat → Int32} {i : Int32} (h : vp_in i 3) : (if ix i < 3 then N (2 + ix i) else 0) = N (2 + ix i) := if_pos (ix_lt h)
theorem wg_s9 {cI : ClassId} {a : Nat → Nat} {N G : Nat → Int32} (i : Nat) (x : Int32) : (wg cI a N G).set 9 (a 9, .inl (cI, 60, .inl (upd G i x))) = wg cI a N (upd G i x) := rfl
theorem wg_f11 {cI : ClassId} {a : Nat → Nat} {N G : Nat → Int32} (x : Int32) : (wg cI a N G).set 0 (a 0, .inr (3, List.set [.ref (a 1), .ref (a 2), .ref (a 3), .ref (a 4), .ref (a 5), .ref (a 6), .ref (a 7), .ref (a 8), .ref (a 9), .ref (a 10), .ref (a 11), .int (N 0), .int (N 1)] 11 (.int x))) = wg cI a (upd N (0) x) G := by
  have e1 : (fun g => upd N (0) x (16 + 11 * g)) = (fun g => N (16 + 11 * g)) := funext fun g => if_neg (by omega)
  have e2 : (fun g => upd N (0) x (17 + 11 * g)) = (fun g => N (17 + 11 * g)) := funext fun g => if_neg (by omega)
  have e3 : (fun j => upd N (0) x (18 + 11 * (j / 4) + j % 4)) = (fun j => N (18 + 11 * (j / 4) + j % 4)) := funext fun j => if_neg (by omega)
  have e4 : (fun g => upd N (0) x (22 + 11 * g)) = (fun g => N (22 + 11 * g)) := funext fun g => if_neg (by omega)
  have e5 : (fun g => upd N (0) x (23 + 11 * g)) = (fun g => N (23 + 11 * g)) := funext fun g => if_neg (by omega)
  have e6 : (fun g => upd N (0) x (24 + 11 * g)) = (fun g => N (24 + 11 * g)) := funext fun g => if_neg (by omega)
  have e7 : (fun g => upd N (0) x (25 + 11 * g)) = (fun g => N (25 + 11 * g)) := funext fun g => if_neg (by omega)
  have e8 : (fun g => upd N (0) x (26 + 11 * g)) = (fun g => N (26 + 11 * g)) := funext fun g => if_neg (by omega)
  have e10 : (fun k => if k < 3 then upd N (0) x (2 + k) else 0) = (fun k => if k < 3 then N (2 + k) else 0) := by
    funext k
    by_cases h : k < 3
    · rw [if_pos h, if_pos h]; exact if_neg (by omega)
    · rw [if_neg h, if_neg h]
  have n1 : upd N (0) x 1 = N 1 := if_neg (by omega)
  have n5 : upd N (0) x 5 = N 5 := if_neg (by omega)
  have n6 : upd N (0) x 6 = N 6 := if_neg (by omega)
  have n7 : upd N (0) x 7 = N 7 := if_neg (by omega)
  have n8 : upd N (0) x 8 = N 8 := if_neg (by omega)
  have n9 : upd N (0) x 9 = N 9 := if_neg (by omega)
  have n11 : upd N (0) x 11 = N 11 := if_neg (by omega)
  have n12 : upd N (0) x 12 = N 12 := if_neg (by omega)
  have ns : upd N 0 x 0 = x := if_pos rfl
  unfold wg
  rw [e1, e2, e3, e4, e5, e6, e7, e8, e10, n1, n5, n6, n7, n8, n9, n11, n12, ns]
  rfl
theorem wg_f12 {cI : ClassId} {a : Nat → Nat} {N G : Nat → Int32} (x : Int32) : (wg cI a N G).set 0 (a 0, .inr (3, List.set [.ref (a 1), .ref (a 2), .ref (a 3), .ref (a 4), .ref (a 5), .ref (a 6), .ref (a 7), .ref (a 8), .ref (a 9), .ref (a 10), .ref (a 11), .int (N 0), .int (N 1)] 12 (.int x))) = wg cI a (upd N (1) x) G := by
  have e1 : (fun g => upd N (1) x (16 + 11 * g)) = (fun g => N (16 + 11 * g)) := funext fun g => if_neg (by omega)
  have e2 : (fun g => upd N (1) x (17 + 11 * g)) = (fun g => N (17 + 11 * g)) := funext fun g => if_neg (by omega)
  have e3 : (fun j => upd N (1) x (18 + 11 * (j / 4) + j % 4)) = (fun j => N (18 + 11 * (j / 4) + j % 4)) := funext fun j => if_neg (by omega)
  have e4 : (fun g => upd N (1) x (22 + 11 * g)) = (fun g => N (22 + 11 * g)) := funext fun g => if_neg (by omega)
  have e5 : (fun g => upd N (1) x (23 + 11 * g)) = (fun g => N (23 + 11 * g)) := funext fun g => if_neg (by omega)
  have e6 : (fun g => upd N (1) x (24 + 11 * g)) = (fun g => N (24 + 11 * g)) := funext fun g => if_neg (by omega)
  have e7 : (fun g => upd N (1) x (25 + 11 * g)) = (fun g => N (25 + 11 * g)) := funext fun g => if_neg (by omega)
  have e8 : (fun g => upd N (1) x (26 + 11 * g)) = (fun g => N (26 + 11 * g)) := funext fun g => if_neg (by omega)
  have e10 : (fun k => if k < 3 then upd N (1) x (2 + k) else 0) = (fun k => if k < 3 then N (2 + k) else 0) := by
    funext k
    by_cases h : k < 3
    · rw [if_pos h, if_pos h]; exact if_neg (by omega)
    · rw [if_neg h, if_neg h]
  have n0 : upd N (1) x 0 = N 0 := if_neg (by omega)
  have n5 : upd N (1) x 5 = N 5 := if_neg (by omega)
  have n6 : upd N (1) x 6 = N 6 := if_neg (by omega)
  have n7 : upd N (1) x 7 = N 7 := if_neg (by omega)
  have n8 : upd N (1) x 8 = N 8 := if_neg (by omega)
  have n9 : upd N (1) x 9 = N 9 := if_neg (by omega)
  have n11 : upd N (1) x 11 = N 11 := if_neg (by omega)
  have n12 : upd N (1) x 12 = N 12 := if_neg (by omega)
  have ns : upd N 1 x 1 = x := if_pos rfl
  unfold wg
  rw [e1, e2, e3, e4, e5, e6, e7, e8, e10, n0, n5, n6, n7, n8, n9, n11, n12, ns]
  rfl
theorem wg_a0 {cI : ClassId} {a : Nat → Nat} {N G : Nat → Int32} (x : Int32) : (wg cI a N G).set 11 (a 11, .inr (0, List.set [.int (N 5), .int (N 6), .int (N 7), .int (N 8), .int (N 9), .int (N 11), .int (N 12)] 0 (.int x))) = wg cI a (upd N (5) x) G := by
  have e1 : (fun g => upd N (5) x (16 + 11 * g)) = (fun g => N (16 + 11 * g)) := funext fun g => if_neg (by omega)
  have e2 : (fun g => upd N (5) x (17 + 11 * g)) = (fun g => N (17 + 11 * g)) := funext fun g => if_neg (by omega)
  have e3 : (fun j => upd N (5) x (18 + 11 * (j / 4) + j % 4)) = (fun j => N (18 + 11 * (j / 4) + j % 4)) := funext fun j => if_neg (by omega)
  have e4 : (fun g => upd N (5) x (22 + 11 * g)) = (fun g => N (22 + 11 * g)) := funext fun g => if_neg (by omega)
  have e5 : (fun g => upd N (5) x (23 + 11 * g)) = (fun g => N (23 + 11 * g)) := funext fun g => if_neg (by omega)
  have e6 : (fun g => upd N (5) x (24 + 11 * g)) = (fun g => N (24 + 11 * g)) := funext fun g => if_neg (by omega)
  have e7 : (fun g => upd N (5) x (25 + 11 * g)) = (fun g => N (25 + 11 * g)) := funext fun g => if_neg (by omega)
  have e8 : (fun g => upd N (5) x (26 + 11 * g)) = (fun g => N (26 + 11 * g)) := funext fun g => if_neg (by omega)
  have e10 : (fun k => if k < 3 then upd N (5) x (2 + k) else 0) = (fun k => if k < 3 then N (2 + k) else 0) := by
    funext k
    by_cases h : k < 3
    · rw [if_pos h, if_pos h]; exact if_neg (by omega)
    · rw [if_neg h, if_neg h]
  have n0 : upd N (5) x 0 = N 0 := if_neg (by omega)
  have n1 : upd N (5) x 1 = N 1 := if_neg (by omega)
  have n6 : upd N (5) x 6 = N 6 := if_neg (by omega)
  have n7 : upd N (5) x 7 = N 7 := if_neg (by omega)
  have n8 : upd N (5) x 8 = N 8 := if_neg (by omega)
  have n9 : upd N (5) x 9 = N 9 := if_neg (by omega)
  have n11 : upd N (5) x 11 = N 11 := if_neg (by omega)
  have n12 : upd N (5) x 12 = N 12 := if_neg (by omega)
  have ns : upd N 5 x 5 = x := if_pos rfl
  unfold wg
  rw [e1, e2, e3, e4, e5, e6, e7, e8, e10, n0, n1, n6, n7, n8, n9, n11, n12, ns]
  rfl
theorem wg_a1 {cI : ClassId} {a : Nat → Nat} {N G : Nat → Int32} (x : Int32) : (wg cI a N G).set 11 (a 11, .inr (0, List.set [.int (N 5), .int (N 6), .int (N 7), .int (N 8), .int (N 9), .int (N 11), .int (N 12)] 1 (.int x))) = wg cI a (upd N (6) x) G := by
  have e1 : (fun g => upd N (6) x (16 + 11 * g)) = (fun g => N (16 + 11 * g)) := funext fun g => if_neg (by omega)
  have e2 : (fun g => upd N (6) x (17 + 11 * g)) = (fun g => N (17 + 11 * g)) := funext fun g => if_neg (by omega)
  have e3 : (fun j => upd N (6) x (18 + 11 * (j / 4) + j % 4)) = (fun j => N (18 + 11 * (j / 4) + j % 4)) := funext fun j => if_neg (by omega)
  have e4 : (fun g => upd N (6) x (22 + 11 * g)) = (fun g => N (22 + 11 * g)) := funext fun g => if_neg (by omega)
  have e5 : (fun g => upd N (6) x (23 + 11 * g)) = (fun g => N (23 + 11 * g)) := funext fun g => if_neg (by omega)
  have e6 : (fun g => upd N (6) x (24 + 11 * g)) = (fun g => N (24 + 11 * g)) := funext fun g => if_neg (by omega)
  have e7 : (fun g => upd N (6) x (25 + 11 * g)) = (fun g => N (25 + 11 * g)) := funext fun g => if_neg (by omega)
  have e8 : (fun g => upd N (6) x (26 + 11 * g)) = (fun g => N (26 + 11 * g)) := funext fun g => if_neg (by omega)
  have e10 : (fun k => if k < 3 then upd N (6) x (2 + k) else 0) = (fun k => if k < 3 then N (2 + k) else 0) := by
    funext k
    by_cases h : k < 3
    · rw [if_pos h, if_pos h]; exact if_neg (by omega)
    · rw [if_neg h, if_neg h]
  have n0 : upd N (6) x 0 = N 0 := if_neg (by omega)
  have n1 : upd N (6) x 1 = N 1 := if_neg (by omega)
  have n5 : upd N (6) x 5 = N 5 := if_neg (by omega)
  have n7 : upd N (6) x 7 = N 7 := if_neg (by omega)
  have n8 : upd N (6) x 8 = N 8 := if_neg (by omega)
  have n9 : upd N (6) x 9 = N 9 := if_neg (by omega)
  have n11 : upd N (6) x 11 = N 11 := if_neg (by omega)
  have n12 : upd N (6) x 12 = N 12 := if_neg (by omega)
  have ns : upd N 6 x 6 = x := if_pos rfl
  unfold wg
  rw [e1, e2, e3, e4, e5, e6, e7, e8, e10, n0, n1, n5, n7, n8, n9, n11, n12, ns]
  rfl
theorem wg_a2 {cI : ClassId} {a : Nat → Nat} {N G : Nat → Int32} (x : Int32) : (wg cI a N G).set 11 (a 11, .inr (0, List.set [.int (N 5), .int (N 6), .int (N 7), .int (N 8), .int (N 9), .int (N 11), .int (N 12)] 2 (.int x))) = wg cI a (upd N (7) x) G := by
  have e1 : (fun g => upd N (7) x (16 + 11 * g)) = (fun g => N (16 + 11 * g)) := funext fun g => if_neg (by omega)
  have e2 : (fun g => upd N (7) x (17 + 11 * g)) = (fun g => N (17 + 11 * g)) := funext fun g => if_neg (by omega)
  have e3 : (fun j => upd N (7) x (18 + 11 * (j / 4) + j % 4)) = (fun j => N (18 + 11 * (j / 4) + j % 4)) := funext fun j => if_neg (by omega)
  have e4 : (fun g => upd N (7) x (22 + 11 * g)) = (fun g => N (22 + 11 * g)) := funext fun g => if_neg (by omega)
  have e5 : (fun g => upd N (7) x (23 + 11 * g)) = (fun g => N (23 + 11 * g)) := funext fun g => if_neg (by omega)
  have e6 : (fun g => upd N (7) x (24 + 11 * g)) = (fun g => N (24 + 11 * g)) := funext fun g => if_neg (by omega)
  have e7 : (fun g => upd N (7) x (25 + 11 * g)) = (fun g => N (25 + 11 * g)) := funext fun g => if_neg (by omega)
  have e8 : (fun g => upd N (7) x (26 + 11 * g)) = (fun g => N (26 + 11 * g)) := funext fun g => if_neg (by omega)
  have e10 : (fun k => if k < 3 then upd N (7) x (2 + k) else 0) = (fun k => if k < 3 then N (2 + k) else 0) := by
    funext k
    by_cases h : k < 3
    · rw [if_pos h, if_pos h]; exact if_neg (by omega)
    · rw [if_neg h, if_neg h]
  have n0 : upd N (7) x 0 = N 0 := if_neg (by omega)
  have n1 : upd N (7) x 1 = N 1 := if_neg (by omega)
  have n5 : upd N (7) x 5 = N 5 := if_neg (by omega)
  have n6 : upd N (7) x 6 = N 6 := if_neg (by omega)
  have n8 : upd N (7) x 8 = N 8 := if_neg (by omega)
  have n9 : upd N (7) x 9 = N 9 := if_neg (by omega)
  have n11 : upd N (7) x 11 = N 11 := if_neg (by omega)
  have n12 : upd N (7) x 12 = N 12 := if_neg (by omega)
  have ns : upd N 7 x 7 = x := if_pos rfl
  unfold wg
  rw [e1, e2, e3, e4, e5, e6, e7, e8, e10, n0, n1, n5, n6, n8, n9, n11, n12, ns]
  rfl
theorem wg_a3 {cI : ClassId} {a : Nat → Nat} {N G : Nat → Int32} (x : Int32) : (wg cI a N G).set 11 (a 11, .inr (0, List.set [.int (N 5), .int (N 6), .int (N 7), .int (N 8), .int (N 9), .int (N 11), .int (N 12)] 3 (.int x))) = wg cI a (upd N (8) x) G := by
  have e1 : (fun g => upd N (8) x (16 + 11 * g)) = (fun g => N (16 + 11 * g)) := funext fun g => if_neg (by omega)
  have e2 : (fun g => upd N (8) x (17 + 11 * g)) = (fun g => N (17 + 11 * g)) := funext fun g => if_neg (by omega)
  have e3 : (fun j => upd N (8) x (18 + 11 * (j / 4) + j % 4)) = (fun j => N (18 + 11 * (j / 4) + j % 4)) := funext fun j => if_neg (by omega)
  have e4 : (fun g => upd N (8) x (22 + 11 * g)) = (fun g => N (22 + 11 * g)) := funext fun g => if_neg (by omega)
  have e5 : (fun g => upd N (8) x (23 + 11 * g)) = (fun g => N (23 + 11 * g)) := funext fun g => if_neg (by omega)
  have e6 : (fun g => upd N (8) x (24 + 11 * g)) = (fun g => N (24 + 11 * g)) := funext fun g => if_neg (by omega)
  have e7 : (fun g => upd N (8) x (25 + 11 * g)) = (fun g => N (25 + 11 * g)) := funext fun g => if_neg (by omega)
  have e8 : (fun g => upd N (8) x (26 + 11 * g)) = (fun g => N (26 + 11 * g)) := funext fun g => if_neg (by omega)
  have e10 : (fun k => if k < 3 then upd N (8) x (2 + k) else 0) = (fun k => if k < 3 then N (2 + k) else 0) := by
    funext k
    by_cases h : k < 3
    · rw [if_pos h, if_pos h]; exact if_neg (by omega)
    · rw [if_neg h, if_neg h]
  have n0 : upd N (8) x 0 = N 0 := if_neg (by omega)
  have n1 : upd N (8) x 1 = N 1 := if_neg (by omega)
  have n5 : upd N (8) x 5 = N 5 := if_neg (by omega)
  have n6 : upd N (8) x 6 = N 6 := if_neg (by omega)
  have n7 : upd N (8) x 7 = N 7 := if_neg (by omega)
  have n9 : upd N (8) x 9 = N 9 := if_neg (by omega)
  have n11 : upd N (8) x 11 = N 11 := if_neg (by omega)
  have n12 : upd N (8) x 12 = N 12 := if_neg (by omega)
  have ns : upd N 8 x 8 = x := if_pos rfl
  unfold wg
  rw [e1, e2, e3, e4, e5, e6, e7, e8, e10, n0, n1, n5, n6, n7, n9, n11, n12, ns]
  rfl
theorem wg_a4 {cI : ClassId} {a : Nat → Nat} {N G : Nat → Int32} (x : Int32) : (wg cI a N G).set 11 (a 11, .inr (0, List.set [.int (N 5), .int (N 6), .int (N 7), .int (N 8), .int (N 9), .int (N 11), .int (N 12)] 4 (.int x))) = wg cI a (upd N (9) x) G := by
  have e1 : (fun g => upd N (9) x (16 + 11 * g)) = (fun g => N (16 + 11 * g)) := funext fun g => if_neg (by omega)
  have e2 : (fun g => upd N (9) x (17 + 11 * g)) = (fun g => N (17 + 11 * g)) := funext fun g => if_neg (by omega)
  have e3 : (fun j => upd N (9) x (18 + 11 * (j / 4) + j % 4)) = (fun j => N (18 + 11 * (j / 4) + j % 4)) := funext fun j => if_neg (by omega)
  have e4 : (fun g => upd N (9) x (22 + 11 * g)) = (fun g => N (22 + 11 * g)) := funext fun g => if_neg (by omega)
  have e5 : (fun g => upd N (9) x (23 + 11 * g)) = (fun g => N (23 + 11 * g)) := funext fun g => if_neg (by omega)
  have e6 : (fun g => upd N (9) x (24 + 11 * g)) = (fun g => N (24 + 11 * g)) := funext fun g => if_neg (by omega)
  have e7 : (fun g => upd N (9) x (25 + 11 * g)) = (fun g => N (25 + 11 * g)) := funext fun g => if_neg (by omega)
  have e8 : (fun g => upd N (9) x (26 + 11 * g)) = (fun g => N (26 + 11 * g)) := funext fun g => if_neg (by omega)
  have e10 : (fun k => if k < 3 then upd N (9) x (2 + k) else 0) = (fun k => if k < 3 then N (2 + k) else 0) := by
    funext k
    by_cases h : k < 3
    · rw [if_pos h, if_pos h]; exact if_neg (by omega)
    · rw [if_neg h, if_neg h]
  have n0 : upd N (9) x 0 = N 0 := if_neg (by omega)
  have n1 : upd N (9) x 1 = N 1 := if_neg (by omega)
  have n5 : upd N (9) x 5 = N 5 := if_neg (by omega)
  have n6 : upd N (9) x 6 = N 6 := if_neg (by omega)
  have n7 : upd N (9) x 7 = N 7 := if_neg (by omega)
  have n8 : upd N (9) x 8 = N 8 := if_neg (by omega)
  have n11 : upd N (9) x 11 = N 11 := if_neg (by omega)
  have n12 : upd N (9) x 12 = N 12 := if_neg (by omega)
  have ns : upd N 9 x 9 = x := if_pos rfl
  unfold wg
  rw [e1, e2, e3, e4, e5, e6, e7, e8, e10, n0, n1, n5, n6, n7, n8, n11, n12, ns]
  rfl
theorem wg_a5 {cI : ClassId} {a : Nat → Nat} {N G : Nat → Int32} (x : Int32) : (wg cI a N G).set 11 (a 11, .inr (0, List.set [.int (N 5), .int (N 6), .int (N 7), .int (N 8), .int (N 9), .int (N 11), .int (N 12)] 5 (.int x))) = wg cI a (upd N (11) x) G := by
  have e1 : (fun g => upd N (11) x (16 + 11 * g)) = (fun g => N (16 + 11 * g)) := funext fun g => if_neg (by omega)
  have e2 : (fun g => upd N (11) x (17 + 11 * g)) = (fun g => N (17 + 11 * g)) := funext fun g => if_neg (by omega)
  have e3 : (fun j => upd N (11) x (18 + 11 * (j / 4) + j % 4)) = (fun j => N (18 + 11 * (j / 4) + j % 4)) := funext fun j => if_neg (by omega)
  have e4 : (fun g => upd N (11) x (22 + 11 * g)) = (fun g => N (22 + 11 * g)) := funext fun g => if_neg (by omega)
  have e5 : (fun g => upd N (11) x (23 + 11 * g)) = (fun g => N (23 + 11 * g)) := funext fun g => if_neg (by omega)
  have e6 : (fun g => upd N (11) x (24 + 11 * g)) = (fun g => N (24 + 11 * g)) := funext fun g => if_neg (by omega)
  have e7 : (fun g => upd N (11) x (25 + 11 * g)) = (fun g => N (25 + 11 * g)) := funext fun g => if_neg (by omega)
  have e8 : (fun g => upd N (11) x (26 + 11 * g)) = (fun g => N (26 + 11 * g)) := funext fun g => if_neg (by omega)
  have e10 : (fun k => if k < 3 then upd N (11) x (2 + k) else 0) = (fun k => if k < 3 then N (2 + k) else 0) := by
    funext k
    by_cases h : k < 3
    · rw [if_pos h, if_pos h]; exact if_neg (by omega)
    · rw [if_neg h, if_neg h]
  have n0 : upd N (11) x 0 = N 0 := if_neg (by omega)
  have n1 : upd N (11) x 1 = N 1 := if_neg (by omega)
  have n5 : upd N (11) x 5 = N 5 := if_neg (by omega)
  have n6 : upd N (11) x 6 = N 6 := if_neg (by omega)
  have n7 : upd N (11) x 7 = N 7 := if_neg (by omega)
  have n8 : upd N (11) x 8 = N 8 := if_neg (by omega)
  have n9 : upd N (11) x 9 = N 9 := if_neg (by omega)
  have n12 : upd N (11) x 12 = N 12 := if_neg (by omega)
  have ns : upd N 11 x 11 = x := if_pos rfl
  unfold wg
  rw [e1, e2, e3, e4, e5, e6, e7, e8, e10, n0, n1, n5, n6, n7, n8, n9, n12, ns]
  rfl
theorem wg_a6 {cI : ClassId} {a : Nat → Nat} {N G : Nat → Int32} (x : Int32) : (wg cI a N G).set 11 (a 11, .inr (0, List.set [.int (N 5), .int (N 6), .int (N 7), .int (N 8), .int (N 9), .int (N 11), .int (N 12)] 6 (.int x))) = wg cI a (upd N (12) x) G := by
  have e1 : (fun g => upd N (12) x (16 + 11 * g)) = (fun g => N (16 + 11 * g)) := funext fun g => if_neg (by omega)
  have e2 : (fun g => upd N (12) x (17 + 11 * g)) = (fun g => N (17 + 11 * g)) := funext fun g => if_neg (by omega)
  have e3 : (fun j => upd N (12) x (18 + 11 * (j / 4) + j % 4)) = (fun j => N (18 + 11 * (j / 4) + j % 4)) := funext fun j => if_neg (by omega)
  have e4 : (fun g => upd N (12) x (22 + 11 * g)) = (fun g => N (22 + 11 * g)) := funext fun g => if_neg (by omega)
  have e5 : (fun g => upd N (12) x (23 + 11 * g)) = (fun g => N (23 + 11 * g)) := funext fun g => if_neg (by omega)
  have e6 : (fun g => upd N (12) x (24 + 11 * g)) = (fun g => N (24 + 11 * g)) := funext fun g => if_neg (by omega)
  have e7 : (fun g => upd N (12) x (25 + 11 * g)) = (fun g => N (25 + 11 * g)) := funext fun g => if_neg (by omega)
  have e8 : (fun g => upd N (12) x (26 + 11 * g)) = (fun g => N (26 + 11 * g)) := funext fun g => if_neg (by omega)
  have e10 : (fun k => if k < 3 then upd N (12) x (2 + k) else 0) = (fun k => if k < 3 then N (2 + k) else 0) := by
    funext k
    by_cases h : k < 3
    · rw [if_pos h, if_pos h]; exact if_neg (by omega)
    · rw [if_neg h, if_neg h]
  have n0 : upd N (12) x 0 = N 0 := if_neg (by omega)
  have n1 : upd N (12) x 1 = N 1 := if_neg (by omega)
  have n5 : upd N (12) x 5 = N 5 := if_neg (by omega)
  have n6 : upd N (12) x 6 = N 6 := if_neg (by omega)
  have n7 : upd N (12) x 7 = N 7 := if_neg (by omega)
  have n8 : upd N (12) x 8 = N 8 := if_neg (by omega)
  have n9 : upd N (12) x 9 = N 9 := if_neg (by omega)
  have n11 : upd N (12) x 11 = N 11 := if_neg (by omega)
  have ns : upd N 12 x 12 = x := if_pos rfl
  unfold wg
  rw [e1, e2, e3, e4, e5, e6, e7, e8, e10, n0, n1, n5, n6, n7, n8, n9, n11, ns]
  rfl
/-- a sorted row -/
def sr (cI : ClassId) (a : Nat → Nat) (V : Nat → Int32) (z : Int32) : va_W := [(a 0, .inr (2, [.ref (a 1), .int z])), (a 1, .inl (cI, 20, .inl V))]
theorem sr_0 {cI : ClassId} {a : Nat → Nat} {V : Nat → Int32} {z : Int32} : (sr cI a V z)[0]? = some (a 0, .inr (2, [.ref (a 1), .int z])) := rfl
theorem sr_1 {cI : ClassId} {a : Nat → Nat} {V : Nat → Int32} {z : Int32} : (sr cI a V z)[1]? = some (a 1, .inl (cI, 20, .inl V)) := rfl
theorem sr_s1 {cI : ClassId} {a : Nat → Nat} {V : Nat → Int32} {z : Int32} (i : Nat) (x : Int32) : (sr cI a V z).set 1 (a 1, .inl (cI, 20, .inl (upd V i x))) = sr cI a (upd V i x) z := rfl
theorem sr_f1 {cI : ClassId} {a : Nat → Nat} {V : Nat → Int32} {z : Int32} (x : Int32) : (sr cI a V z).set 0 (a 0, .inr (2, List.set [.ref (a 1), .int z] 1 (.int x))) = sr cI a V x := rfl
/-- the text: its signs; length, at, kind, first, second -/
def tx (cC : ClassId) (a : Nat → Nat) (S q : Nat → Int32) : va_W := [(a 0, .inr (1, [.ref (a 1), .int (q 0), .int (q 1), .int (q 2), .int (q 3), .int (q 4)])), (a 1, .inl (cC, 60, .inl S))]
theorem tx_0 {cC : ClassId} {a : Nat → Nat} {S q : Nat → Int32} : (tx cC a S q)[0]? = some (a 0, .inr (1, [.ref (a 1), .int (q 0), .int (q 1), .int (q 2), .int (q 3), .int (q 4)])) := rfl
theorem tx_1 {cC : ClassId} {a : Nat → Nat} {S q : Nat → Int32} : (tx cC a S q)[1]? = some (a 1, .inl (cC, 60, .inl S)) := rfl
theorem tx_s1 {cC : ClassId} {a : Nat → Nat} {S q : Nat → Int32} (i : Nat) (x : Int32) : (tx cC a S q).set 1 (a 1, .inl (cC, 60, .inl (upd S i x))) = tx cC a (upd S i x) q := rfl
theorem tx_f1 {cC : ClassId} {a : Nat → Nat} {S q : Nat → Int32} (x : Int32) : (tx cC a S q).set 0 (a 0, .inr (1, List.set [.ref (a 1), .int (q 0), .int (q 1), .int (q 2), .int (q 3), .int (q 4)] 1 (.int x))) = tx cC a S (upd q 0 x) := rfl
theorem tx_f2 {cC : ClassId} {a : Nat → Nat} {S q : Nat → Int32} (x : Int32) : (tx cC a S q).set 0 (a 0, .inr (1, List.set [.ref (a 1), .int (q 0), .int (q 1), .int (q 2), .int (q 3), .int (q 4)] 2 (.int x))) = tx cC a S (upd q 1 x) := rfl
theorem tx_f3 {cC : ClassId} {a : Nat → Nat} {S q : Nat → Int32} (x : Int32) : (tx cC a S q).set 0 (a 0, .inr (1, List.set [.ref (a 1), .int (q 0), .int (q 1), .int (q 2), .int (q 3), .int (q 4)] 3 (.int x))) = tx cC a S (upd q 2 x) := rfl
theorem tx_f4 {cC : ClassId} {a : Nat → Nat} {S q : Nat → Int32} (x : Int32) : (tx cC a S q).set 0 (a 0, .inr (1, List.set [.ref (a 1), .int (q 0), .int (q 1), .int (q 2), .int (q 3), .int (q 4)] 4 (.int x))) = tx cC a S (upd q 3 x) := rfl
theorem tx_f5 {cC : ClassId} {a : Nat → Nat} {S q : Nat → Int32} (x : Int32) : (tx cC a S q).set 0 (a 0, .inr (1, List.set [.ref (a 1), .int (q 0), .int (q 1), .int (q 2), .int (q 3), .int (q 4)] 5 (.int x))) = tx cC a S (upd q 4 x) := rfl
/-- the model: its row now; Z 0: its numbers (pasts, typed, bestGood, bestSlot, bestWorth, at, letter, first, second, orders, faultAt), Z 1 past, Z 2 tried, Z 3 text, Z 4 walks, Z 5 demands -/
def md (cI : ClassId) (a : Nat → Nat) (N : Nat → Int32) (Z : Nat → Nat → Int32) : va_W := [(a 0, .inr (5, [.ref (a 1), .ref (a 2), .int (Z 0 0), .ref (a 3), .ref (a 4), .int (Z 0 1), .int (Z 0 2), .int (Z 0 3), .int (Z 0 4), .ref (a 5), .ref (a 6), .int (Z 0 5), .int (Z 0 6), .int (Z 0 7), .int (Z 0 8), .int (Z 0 9), .int (Z 0 10)])), (a 1, .inl (cI, 236, .inl (N))), (a 2, .inl (cI, 944, .inl (Z 1))), (a 3, .inl (cI, 236, .inl (Z 2))), (a 4, .inl (cI, 60, .inl (Z 3))), (a 5, .inl (cI, 20, .inl (Z 4))), (a 6, .inl (cI, 20, .inl (Z 5)))]
section ZM
variable {p : Program} {l : Launch} {e : Env} {R : Room} {s : State} {m : MethodId} {args : Array Value} {below : List Frame} {meth : Method} {c : Code} {H : Heap} {locs : List Loc}
variable {cc : ByteArray} {pc : Nat} {ls : Array Slot} {D : va_G} {A : Nat → Prop} {cI : ClassId} {a : Nat → Nat}
end ZM
