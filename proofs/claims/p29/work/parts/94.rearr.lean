/-! PURE: the best way is none longer -/
def insA (a : Int) : List Int → List Int
  | [] => [a]
  | x :: A => if a < x then a :: x :: A else x :: insA a A
def insD (b : Int) : List Int → List Int
  | [] => [b]
  | y :: B => if y ≤ b then b :: y :: B else y :: insD b B
def dotL : List Int → List Int → Int
  | x :: A, y :: B => x * y + dotL A B
  | _, _ => 0
def ascL : List Int → Prop
  | [] => True
  | x :: A => (∀ y ∈ A, x ≤ y) ∧ ascL A
def desL : List Int → Prop
  | [] => True
  | x :: A => (∀ y ∈ A, y ≤ x) ∧ desL A
theorem mulle {p q r t : Int} (h1 : p ≤ q) (h2 : r ≤ t) : p * t + q * r ≤ p * r + q * t := by
  have h := Int.mul_nonneg (Int.sub_nonneg_of_le h1) (Int.sub_nonneg_of_le h2)
  have e : (q - p) * (t - r) = q * t - q * r - (p * t - p * r) := by rw [Int.sub_mul, Int.mul_sub, Int.mul_sub]
  rw [e] at h
  omega
theorem dh1 : ∀ (B A : List Int) (x b : Int), A.length = B.length → (∀ y ∈ A, x ≤ y) → ascL A → dotL (x :: A) (insD b B) ≤ x * b + dotL A B := by
  intro B
  induction B with
  | nil =>
    intro A x b hl _ _
    cases A with
    | nil => exact Int.le_refl _
    | cons a A => exact absurd hl (by simp)
  | cons y B ih =>
    intro A x b hl h1 h2
    cases A with
    | nil => exact absurd hl (by simp)
    | cons a A =>
      unfold insD
      by_cases c : y ≤ b
      · rw [if_pos c]; exact Int.le_refl _
      · rw [if_neg c]
        have h := ih A a b (by simpa using hl) h2.1 h2.2
        have hxa := h1 a (by simp)
        show x * y + dotL (a :: A) (insD b B) ≤ x * b + (a * y + dotL A B)
        have m := mulle hxa (show b ≤ y by omega)
        omega
theorem dh2 : ∀ (A B : List Int) (a y : Int), A.length = B.length → (∀ z ∈ B, z ≤ y) → desL B → dotL (insA a A) (y :: B) ≤ a * y + dotL A B := by
  intro A
  induction A with
  | nil =>
    intro B a y hl _ _
    cases B with
    | nil => exact Int.le_refl _
    | cons b B => exact absurd hl (by simp)
  | cons x A ih =>
    intro B a y hl h1 h2
    cases B with
    | nil => exact absurd hl (by simp)
    | cons b B =>
      unfold insA
      by_cases c : a < x
      · rw [if_pos c]; exact Int.le_refl _
      · rw [if_neg c]
        have h := ih B a b (by simpa using hl) h2.1 h2.2
        have hby := h1 b (by simp)
        show x * y + dotL (insA a A) (b :: B) ≤ a * y + (x * b + dotL A B)
        have m := mulle (show x ≤ a by omega) hby
        omega
theorem dhM : ∀ (A B : List Int) (a b : Int), A.length = B.length → ascL A → desL B → dotL (insA a A) (insD b B) ≤ dotL A B + a * b := by
  intro A
  induction A with
  | nil =>
    intro B a b hl _ _
    cases B with
    | nil => show a * b + 0 ≤ 0 + a * b; omega
    | cons y B => exact absurd hl (by simp)
  | cons x A ih =>
    intro B a b hl hA hB
    cases B with
    | nil => exact absurd hl (by simp)
    | cons y B =>
      have hl2 : A.length = B.length := by simpa using hl
      unfold insA insD
      by_cases c1 : a < x
      · rw [if_pos c1]
        by_cases c2 : y ≤ b
        · rw [if_pos c2]
          show a * b + (x * y + dotL A B) ≤ x * y + dotL A B + a * b
          omega
        · rw [if_neg c2]
          have h := dh1 B A x b hl2 hA.1 hA.2
          show a * y + dotL (x :: A) (insD b B) ≤ x * y + dotL A B + a * b
          have m := mulle (show a ≤ x by omega) (show b ≤ y by omega)
          omega
      · rw [if_neg c1]
        by_cases c2 : y ≤ b
        · rw [if_pos c2]
          have h := dh2 A B a y hl2 hB.1 hB.2
          show x * b + dotL (insA a A) (y :: B) ≤ x * y + dotL A B + a * b
          have m := mulle (show x ≤ a by omega) c2
          omega
        · rw [if_neg c2]
          have h := ih B a b hl2 hA.2 hB.2
          show x * y + dotL (insA a A) (insD b B) ≤ x * y + dotL A B + a * b
          omega
/-- a row as a list -/
def tlL (f : Nat → Int32) : Nat → Nat → List Int
  | 0, _ => []
  | k + 1, i => (f i).toInt :: tlL f k (i + 1)
theorem tlL_len {f : Nat → Int32} : ∀ k i : Nat, (tlL f k i).length = k := by
  intro k
  induction k with
  | zero => intro i; rfl
  | succ k ih => intro i; show (tlL f k (i + 1)).length + 1 = k + 1; rw [ih]
theorem tlL_same {f g : Nat → Int32} : ∀ k i : Nat, (∀ j, i ≤ j → j < i + k → f j = g j) → tlL f k i = tlL g k i := by
  intro k
  induction k with
  | zero => intro i _; rfl
  | succ k ih =>
    intro i h
    show (f i).toInt :: tlL f k (i + 1) = (g i).toInt :: tlL g k (i + 1)
    rw [h i (by omega) (by omega), ih (i + 1) (fun j h1 h2 => h j (by omega) (by omega))]
theorem tlL_sh {f g : Nat → Int32} : ∀ k i : Nat, (∀ j, i < j → j ≤ i + k → f j = g (j - 1)) → tlL f k (i + 1) = tlL g k i := by
  intro k
  induction k with
  | zero => intro i _; rfl
  | succ k ih =>
    intro i h
    show (f (i + 1)).toInt :: tlL f k (i + 1 + 1) = (g i).toInt :: tlL g k (i + 1)
    rw [h (i + 1) (by omega) (by omega), ih (i + 1) (fun j h1 h2 => h j (by omega) (by omega))]
    rfl
theorem tlL_mem {f : Nat → Int32} : ∀ (k i : Nat) (y : Int), y ∈ tlL f k i → ∃ j, i ≤ j ∧ j < i + k ∧ y = (f j).toInt := by
  intro k
  induction k with
  | zero => intro i y h; exact absurd h (by simp [tlL])
  | succ k ih =>
    intro i y h
    rcases List.mem_cons.mp (show y ∈ (f i).toInt :: tlL f k (i + 1) from h) with e | h
    · exact ⟨i, by omega, by omega, e⟩
    · obtain ⟨j, h1, h2, h3⟩ := ih (i + 1) y h
      exact ⟨j, by omega, by omega, h3⟩
theorem insA_of {V V' : Nat → Int32} {x : Int32} {p : Nat} (hx : V' p = x) : ∀ k i : Nat, i ≤ p → p ≤ i + k → (∀ j, i ≤ j → j < p → V' j = V j) → (∀ j, p < j → j ≤ i + k → V' j = V (j - 1)) → (∀ j, i ≤ j → j < p → V j ≤ x) → (∀ j, p ≤ j → j < i + k → x < V j) → tlL V' (k + 1) i = insA x.toInt (tlL V k i) := by
  intro k
  induction k with
  | zero =>
    intro i h1 h2 _ _ _ _
    have e : p = i := by omega
    subst e
    show (V' p).toInt :: [] = [x.toInt]
    rw [hx]
  | succ k ih =>
    intro i h1 h2 h3 h4 h5 h6
    show (V' i).toInt :: tlL V' (k + 1) (i + 1) = (if x.toInt < (V i).toInt then x.toInt :: (V i).toInt :: tlL V k (i + 1) else (V i).toInt :: insA x.toInt (tlL V k (i + 1)))
    by_cases e : p = i
    · subst e
      rw [if_pos (by have := h6 p (by omega) (by omega); rw [lt_toInt] at this; exact this), hx, tlL_sh (g := V) (k + 1) p (fun j q1 q2 => h4 j q1 (by omega))]
      rfl
    · rw [if_neg (by have := h5 i (by omega) (by omega); rw [le_toInt] at this; omega), h3 i (by omega) (by omega), ih (i + 1) (by omega) (by omega) (fun j q1 q2 => h3 j (by omega) q2) (fun j q1 q2 => h4 j q1 (by omega)) (fun j q1 q2 => h5 j (by omega) q2) (fun j q1 q2 => h6 j q1 (by omega))]
theorem insD_of {V V' : Nat → Int32} {x : Int32} {p : Nat} (hx : V' p = x) : ∀ k i : Nat, i ≤ p → p ≤ i + k → (∀ j, i ≤ j → j < p → V' j = V j) → (∀ j, p < j → j ≤ i + k → V' j = V (j - 1)) → (∀ j, i ≤ j → j < p → x < V j) → (∀ j, p ≤ j → j < i + k → V j ≤ x) → tlL V' (k + 1) i = insD x.toInt (tlL V k i) := by
  intro k
  induction k with
  | zero =>
    intro i h1 h2 _ _ _ _
    have e : p = i := by omega
    subst e
    show (V' p).toInt :: [] = [x.toInt]
    rw [hx]
  | succ k ih =>
    intro i h1 h2 h3 h4 h5 h6
    show (V' i).toInt :: tlL V' (k + 1) (i + 1) = (if (V i).toInt ≤ x.toInt then x.toInt :: (V i).toInt :: tlL V k (i + 1) else (V i).toInt :: insD x.toInt (tlL V k (i + 1)))
    by_cases e : p = i
    · subst e
      rw [if_pos (by have := h6 p (by omega) (by omega); rw [le_toInt] at this; exact this), hx, tlL_sh (g := V) (k + 1) p (fun j q1 q2 => h4 j q1 (by omega))]
      rfl
    · rw [if_neg (by have := h5 i (by omega) (by omega); rw [lt_toInt] at this; omega), h3 i (by omega) (by omega), ih (i + 1) (by omega) (by omega) (fun j q1 q2 => h3 j (by omega) q2) (fun j q1 q2 => h4 j q1 (by omega)) (fun j q1 q2 => h5 j (by omega) q2) (fun j q1 q2 => h6 j q1 (by omega))]
/-- where a number comes into a sorted row -/
def insP (V V' : Nat → Int32) (x : Int32) (m p : Nat) : Prop := p ≤ m ∧ (∀ j, j < p → V' j = V j) ∧ V' p = x ∧ (∀ j, p < j → j ≤ m → V' j = V (j - 1)) ∧ (∀ j, j < p → V j ≤ x) ∧ ∀ j, p ≤ j → j < m → x < V j
theorem ins_p {z x : Int32} {m : Nat} {V : Nat → Int32} (hm : m < 20) (hV : asc V m) : ∀ (n a : Nat) (W : Nat → Int32), a ≤ m → a < n → (∀ j, j < a → W j = V j) → (∀ j, a < j → j ≤ m → W j = V (j - 1)) → (∀ j, a ≤ j → j < m → x < V j) → ∃ p, insP V (lp22_X3_insert z x n (nI a) W).1 x m p := by
  intro n
  induction n with
  | zero => intro a W _ h; exact absurd h (by omega)
  | succ n ih =>
    intro a W ha hn h1 h2 h3
    rw [lp22_X3_insert_s]
    dsimp only
    rw [xI (show a < 1000 by omega)]
    have fin : (a = 0 ∨ V (a - 1) ≤ x) → ∃ p, insP V (upd W a x) x m p := by
      intro hx
      refine ⟨a, ha, fun j hj => (pk_un (by omega)).trans (h1 j hj), pk_us, fun j q1 q2 => (pk_un (by omega)).trans (h2 j q1 q2), fun j hj => ?_, h3⟩
      rcases hx with q | q
      · omega
      · by_cases e : j = a - 1
        · rw [e]; exact q
        · exact leT (hV j (a - 1) (by omega) (by omega)) q
    by_cases c1 : nI a ≤ 0
    · rw [if_pos c1]
      have a0 : a = 0 := by rw [le_toInt, tI (by omega), i0] at c1; omega
      exact fin (Or.inl a0)
    · rw [if_neg c1]
      have a0 : 0 < a := by rw [le_toInt, tI (by omega), i0] at c1; omega
      obtain ⟨d, rfl⟩ : ∃ d, a = d + 1 := ⟨a - 1, by omega⟩
      rw [nI_pred, xI (show d < 1000 by omega), pk_m1]
      by_cases c2 : W d ≤ x
      · rw [if_pos c2]
        rw [h1 d (by omega)] at c2
        exact fin (Or.inr c2)
      · rw [if_neg c2]
        rw [h1 d (by omega)] at c2
        refine ih d (upd W (d + 1) (W d)) (by omega) (by omega) (fun j hj => (pk_un (by omega)).trans (h1 j (by omega))) (fun j q1 q2 => ?_) (fun j q1 q2 => ?_)
        · by_cases e : j = d + 1
          · rw [e, pk_us, h1 d (by omega)]; rfl
          · rw [pk_un e]; exact h2 j (by omega) q2
        · by_cases e : j = d
          · rw [e]; exact nle_lt c2
          · exact h3 j (by omega) q2
theorem ins_q {x : Int32} {m : Nat} {V : Nat → Int32} (hm : m < 20) (h : asc V m) : ∃ p, insP V (sp_X3_insert V (nI m) x).1 x m p := by
  unfold sp_X3_insert
  rw [if_neg (nI_pos (by omega)), if_pos (by rw [lt_toInt, tI (by omega), show (20 : Int32).toInt = 20 from by decide]; omega)]
  exact ins_p hm h 21 m V (Nat.le_refl m) (by omega) (fun j _ => rfl) (fun j q w => by omega) (fun j q w => by omega)
/-- the shortest walks first come last -/
def rvF (U : Nat → Int32) (m : Nat) : Nat → Int32 := fun j => U (m - 1 - j)
theorem insA_q {V V' : Nat → Int32} {x : Int32} {m p : Nat} (h : insP V V' x m p) : tlL V' (m + 1) 0 = insA x.toInt (tlL V m 0) := by
  obtain ⟨h1, h2, h3, h4, h5, h6⟩ := h
  exact insA_of h3 m 0 (by omega) (by omega) (fun j _ => h2 j) (fun j q1 q2 => h4 j q1 (by omega)) (fun j _ => h5 j) (fun j q1 q2 => h6 j q1 (by omega))
theorem insD_q {U U' : Nat → Int32} {x : Int32} {m q : Nat} (h : insP U U' x m q) : tlL (rvF U' (m + 1)) (m + 1) 0 = insD x.toInt (tlL (rvF U m) m 0) := by
  obtain ⟨h1, h2, h3, h4, h5, h6⟩ := h
  refine insD_of (p := m - q) (x := x) ?_ m 0 (by omega) (by omega) (fun j _ hj => ?_) (fun j q1 q2 => ?_) (fun j _ hj => ?_) (fun j q1 q2 => ?_)
  · show U' (m + 1 - 1 - (m - q)) = x
    rw [show m + 1 - 1 - (m - q) = q by omega]; exact h3
  · show U' (m + 1 - 1 - j) = U (m - 1 - j)
    rw [h4 _ (by omega) (by omega)]; congr 1; omega
  · show U' (m + 1 - 1 - j) = U (m - 1 - (j - 1))
    rw [h2 _ (by omega)]; congr 1; omega
  · exact h6 _ (by omega) (by omega)
  · exact h5 _ (by omega)
theorem asc_L {V : Nat → Int32} : ∀ k i : Nat, (∀ a c, i ≤ a → a < c → c < i + k → V a ≤ V c) → ascL (tlL V k i) := by
  intro k
  induction k with
  | zero => intro i _; trivial
  | succ k ih =>
    intro i h
    refine ⟨fun y hy => ?_, ih (i + 1) (fun a c q1 q2 q3 => h a c (by omega) q2 (by omega))⟩
    obtain ⟨j, j1, j2, rfl⟩ := tlL_mem k (i + 1) y hy
    have := h i j (by omega) (by omega) (by omega)
    rw [le_toInt] at this
    exact this
theorem des_L {V : Nat → Int32} : ∀ k i : Nat, (∀ a c, i ≤ a → a < c → c < i + k → V c ≤ V a) → desL (tlL V k i) := by
  intro k
  induction k with
  | zero => intro i _; trivial
  | succ k ih =>
    intro i h
    refine ⟨fun y hy => ?_, ih (i + 1) (fun a c q1 q2 q3 => h a c (by omega) q2 (by omega))⟩
    obtain ⟨j, j1, j2, rfl⟩ := tlL_mem k (i + 1) y hy
    have := h i j (by omega) (by omega) (by omega)
    rw [le_toInt] at this
    exact this
/-- numbers in their ranges -/
def rgF (V : Nat → Int32) (m : Nat) (c : Int) : Prop := ∀ j, j < m → 0 ≤ (V j).toInt ∧ (V j).toInt ≤ c
theorem rg_ins {V V' : Nat → Int32} {x : Int32} {m p : Nat} {c : Int} (h : insP V V' x m p) (hV : rgF V m c) (hx : 0 ≤ x.toInt ∧ x.toInt ≤ c) : rgF V' (m + 1) c := by
  obtain ⟨h1, h2, h3, h4, h5, h6⟩ := h
  intro j hj
  rcases Nat.lt_trichotomy j p with e | e | e
  · rw [h2 j e]; exact hV j (by omega)
  · rw [e, h3]; exact hx
  · rw [h4 j e (by omega)]; exact hV (j - 1) (by omega)
theorem mul_rg {a c : Int} (h1 : 0 ≤ a) (h2 : a ≤ 999) (h3 : 0 ≤ c) (h4 : c ≤ 49) : 0 ≤ a * c ∧ a * c ≤ 48951 := by
  have e1 := Int.mul_nonneg h1 h3
  have e2 := Int.mul_le_mul h2 h4 h3 (by omega : (0 : Int) ≤ 999)
  omega
/-- the sum, without a wrap -/
theorem dot_sum {V R : Nat → Int32} : ∀ k i : Nat, k ≤ 20 → (∀ j, i ≤ j → j < i + k → (0 ≤ (V j).toInt ∧ (V j).toInt ≤ 999) ∧ 0 ≤ (R j).toInt ∧ (R j).toInt ≤ 49) → (sumI (fun j => V j * R j) k i).toInt = dotL (tlL V k i) (tlL R k i) ∧ 0 ≤ dotL (tlL V k i) (tlL R k i) ∧ dotL (tlL V k i) (tlL R k i) ≤ 48951 * (k : Int) := by
  intro k
  induction k with
  | zero => intro i _ _; exact ⟨i0, Int.le_refl _, Int.le_refl _⟩
  | succ k ih =>
    intro i hk h
    obtain ⟨e1, e2, e3⟩ := ih (i + 1) (by omega) (fun j q1 q2 => h j (by omega) (by omega))
    obtain ⟨⟨a1, a2⟩, a3, a4⟩ := h i (by omega) (by omega)
    have m := mul_rg a1 a2 a3 a4
    have em : (V i * R i).toInt = (V i).toInt * (R i).toInt := mul_toInt (by omega) (by omega)
    show (V i * R i + sumI (fun j => V j * R j) k (i + 1)).toInt = (V i).toInt * (R i).toInt + dotL (tlL V k (i + 1)) (tlL R k (i + 1)) ∧ 0 ≤ (V i).toInt * (R i).toInt + dotL (tlL V k (i + 1)) (tlL R k (i + 1)) ∧ (V i).toInt * (R i).toInt + dotL (tlL V k (i + 1)) (tlL R k (i + 1)) ≤ 48951 * ((k + 1 : Nat) : Int)
    rw [add_toInt (by rw [em, e1]; omega) (by rw [em, e1]; omega), em, e1]
    refine ⟨rfl, by omega, by omega⟩
section RA
variable {N G : Nat → Int32} {b : Int} {s : Nat}
/-- the weekly walk, without a wrap -/
def wkI (N : Nat → Int32) (s : Nat) : Nat → Int
  | 0 => 0
  | k + 1 => wkI N s k + (wkT N s k).toInt
theorem wkT_r (h : wf b N G) (hs : s < 4) {g : Nat} (hg : (g : Int) < (N 0).toInt) : 0 ≤ (wkT N s g).toInt ∧ (wkT N s g).toInt ≤ 48951 := by
  rcases (h.g hg).p with hp | ⟨t, ht, hp⟩
  · rw [wkT_no hp, i0]; omega
  · rw [wkT_at ht hp]
    have p := (h.g hg).d hs
    have w := wk_lo t ht
    have m := mul_rg p.1 p.2 (by omega : 0 ≤ (sp_X6_walk (nI t)).toInt) w.2
    rw [mul_toInt (by omega) (by omega)]
    exact m
theorem wkI_r (h : wf b N G) (hs : s < 4) : ∀ k : Nat, (k : Int) ≤ (N 0).toInt → (sumI (wkT N s) k 0).toInt = wkI N s k ∧ 0 ≤ wkI N s k ∧ wkI N s k ≤ 48951 * (k : Int) := by
  intro k
  induction k with
  | zero => intro _; exact ⟨i0, Int.le_refl _, Int.le_refl _⟩
  | succ k ih =>
    intro hk
    obtain ⟨e1, e2, e3⟩ := ih (by omega)
    have m := wkT_r h hs (g := k) (by omega)
    have n := h.sf.2.1
    rw [sumI_snoc, Nat.zero_add]
    show (sumI (wkT N s) k 0 + wkT N s k).toInt = wkI N s k + (wkT N s k).toInt ∧ 0 ≤ wkI N s k + (wkT N s k).toInt ∧ wkI N s k + (wkT N s k).toInt ≤ 48951 * ((k + 1 : Nat) : Int)
    rw [add_toInt (by rw [e1]; omega) (by rw [e1]; omega), e1]
    exact ⟨rfl, by omega, by omega⟩
theorem sh_l (h : wf b N G) (hs4 : s < 4) : ∀ (k fuel i m : Nat) (V U : Nat → Int32), (N 0).toInt = (i : Int) + (k : Int) → k < fuel → m ≤ i → asc V m → asc U m → rgF V m 999 → rgF U m 49 → dotL (tlL V m 0) (tlL (rvF U m) m 0) ≤ wkI N s i →
    0 ≤ (lp13_X4_shortestWalk N G (nI s) fuel (nI i) V (nI m) U (nI m)).1.toInt ∧ (lp13_X4_shortestWalk N G (nI s) fuel (nI i) V (nI m) U (nI m)).1.toInt ≤ wkI N s (i + k) := by
  intro k
  induction k with
  | zero =>
    intro fuel i m V U hk hf hmi hV hU rV rU hd
    cases fuel with
    | zero => exact absurd hf (by omega)
    | succ f =>
      have h20 := h.sf.2.1
      have hm : m ≤ 20 := by omega
      rw [lp13_X4_shortestWalk_s, if_pos (cend h.sf hk)]
      have s2 : (lp68_X4_shortestWalk N G (nI s) (lp13_X4_shortestWalk N G (nI s) f) 21 0 0 V (nI m) U (nI m)).1 = 0 + sumI (fun j => V j * U (m - 1 - j)) m 0 := sc_l hm m 21 0 0 (by omega) (by omega)
      rw [s2, Int32.zero_add]
      obtain ⟨e1, e2, e3⟩ := dot_sum (V := V) (R := rvF U m) m 0 hm (fun j _ hj => ⟨rV j (by omega), rU (m - 1 - j) (by omega)⟩)
      have e1 : (sumI (fun j => V j * U (m - 1 - j)) m 0).toInt = dotL (tlL V m 0) (tlL (rvF U m) m 0) := e1
      rw [e1]
      exact ⟨e2, hd⟩
  | succ k ih =>
    intro fuel i m V U hk hf hmi hV hU rV rU hd
    cases fuel with
    | zero => exact absurd hf (by omega)
    | succ f =>
      obtain ⟨c1, hi⟩ := cgo h.sf hk
      have h20 := h.n20 hi
      rw [lp13_X4_shortestWalk_s, if_neg c1, show i + (k + 1) = (i + 1) + k by omega]
      rcases (h.g hi).p with hp | ⟨t, ht, hp⟩
      · rw [if_pos ((pplaced h20 (h.g hi).p).mpr hp), nI_1]
        refine ih f (i + 1) m V U (by omega) (by omega) (by omega) hV hU rV rU ?_
        show _ ≤ wkI N s i + (wkT N s i).toInt
        rw [wkT_no hp, i0]; omega
      · have hn : ¬ N (22 + 11 * i) = -1 := by rw [hp]; exact nI_nm1 (by omega)
        rw [if_neg (fun q => hn ((pplaced h20 (h.g hi).p).mp q))]
        dsimp only
        rw [d4 h20 hs4, xI (show i < 1000 by omega), hp, wkT' t ht, nI_1]
        have pd := (h.g hi).d hs4
        have pw := wk_lo t ht
        obtain ⟨v1, v2, v3⟩ := ins_s (x := N (18 + 11 * i + s)) (show m < 20 by omega) hV
        obtain ⟨u1, u2, u3⟩ := ins_s (x := sp_X6_walk (nI t)) (show m < 20 by omega) hU
        obtain ⟨p, hpP⟩ := ins_q (x := N (18 + 11 * i + s)) (show m < 20 by omega) hV
        obtain ⟨q, hqP⟩ := ins_q (x := sp_X6_walk (nI t)) (show m < 20 by omega) hU
        rw [v3, u3]
        refine ih f (i + 1) (m + 1) _ _ (by omega) (by omega) (by omega) v1 u1 (rg_ins hpP rV pd) (rg_ins hqP rU (by omega)) ?_
        rw [insA_q hpP, insD_q hqP]
        have hM := dhM (tlL V m 0) (tlL (rvF U m) m 0) (N (18 + 11 * i + s)).toInt (sp_X6_walk (nI t)).toInt (by rw [tlL_len, tlL_len]) (asc_L m 0 (fun a c _ q2 q3 => hV a c q2 (by omega))) (des_L m 0 (fun a c _ q2 q3 => hU (m - 1 - c) (m - 1 - a) (by omega) (by omega)))
        have m0 := mul_rg pd.1 pd.2 (by omega : 0 ≤ (sp_X6_walk (nI t)).toInt) pw.2
        show _ ≤ wkI N s i + (wkT N s i).toInt
        rw [wkT_at ht hp, mul_toInt (by omega) (by omega)]
        omega
theorem best_le (h : wf b N G) (hs : s < 4) {V U : Nat → Int32} {z y : Int32} : ¬ sp_X4_weeklyWalk N G (nI s) < (sp_X4_shortestWalk N G V z U y (nI s)).1 ∧ (0 : Int32) ≤ (sp_X4_shortestWalk N G V z U y (nI s)).1 := by
  have c := cst h.sf
  have h20 := h.sf.2.1
  obtain ⟨e1, e2⟩ := sh_l h hs _ 21 0 0 V U c.1 c.2 (Nat.le_refl 0) (fun i j _ hj => absurd hj (by omega)) (fun i j _ hj => absurd hj (by omega)) (fun j hj => absurd hj (by omega)) (fun j hj => absurd hj (by omega)) (Int.le_refl 0)
  have w := wkI_r h hs (N 0).toInt.toNat (by have := h.sf.1; omega)
  rw [Nat.zero_add] at e2
  have e1 : 0 ≤ (sp_X4_shortestWalk N G V z U y (nI s)).1.toInt := e1
  have e2 : (sp_X4_shortestWalk N G V z U y (nI s)).1.toInt ≤ wkI N s (N 0).toInt.toNat := e2
  rw [wk4 h hs, lt_toInt, le_toInt, i0]
  have ew : (wkS N s).toInt = wkI N s (N 0).toInt.toNat := w.1
  rw [ew]
  exact ⟨by omega, e1⟩
end RA
