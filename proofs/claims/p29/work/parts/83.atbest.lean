/-! PURE: the best way: rows sorted by class and model -/
/-- how often c stands among the first n -/
def ct (f : Nat → Int32) (c : Int32) : Nat → Nat
  | 0 => 0
  | n + 1 => ct f c n + (if f n = c then 1 else 0)
theorem ct_same {f g : Nat → Int32} {c : Int32} : ∀ n : Nat, (∀ j, j < n → f j = g j) → ct f c n = ct g c n := by
  intro n
  induction n with
  | zero => intro _; rfl
  | succ n ih =>
    intro h
    show ct f c n + (if f n = c then 1 else 0) = ct g c n + (if g n = c then 1 else 0)
    rw [ih (fun j hj => h j (by omega)), h n (by omega)]
theorem ct_upd {f : Nat → Int32} {c x : Int32} {k : Nat} : ∀ n : Nat, k < n → ct (upd f k x) c n + (if f k = c then 1 else 0) = ct f c n + (if x = c then 1 else 0) := by
  intro n
  induction n with
  | zero => intro h; exact absurd h (by omega)
  | succ n ih =>
    intro h
    show ct (upd f k x) c n + (if upd f k x n = c then 1 else 0) + (if f k = c then 1 else 0) = ct f c n + (if f n = c then 1 else 0) + (if x = c then 1 else 0)
    by_cases e : k = n
    · subst e
      rw [pk_us, ct_same (f := upd f k x) (g := f) k (fun j hj => pk_un (by omega))]
      omega
    · rw [pk_un (fun q => e q.symm)]
      have := ih (by omega)
      omega
theorem ct_out {f : Nat → Int32} {c x : Int32} {k n : Nat} (h : n ≤ k) : ct (upd f k x) c n = ct f c n := ct_same n (fun j hj => pk_un (by omega))
theorem ct_ex {f : Nat → Int32} {c : Int32} : ∀ n : Nat, 0 < ct f c n → ∃ j, j < n ∧ f j = c := by
  intro n
  induction n with
  | zero => intro h; exact absurd h (Nat.lt_irrefl 0)
  | succ n ih =>
    intro h
    by_cases e : f n = c
    · exact ⟨n, by omega, e⟩
    · have h2 : 0 < ct f c n + (if f n = c then 1 else 0) := h
      rw [if_neg e] at h2
      obtain ⟨j, hj, ej⟩ := ih (by omega)
      exact ⟨j, by omega, ej⟩
theorem ct_pos {f : Nat → Int32} {c : Int32} {j : Nat} : ∀ n : Nat, j < n → f j = c → 0 < ct f c n := by
  intro n
  induction n with
  | zero => intro h; exact absurd h (by omega)
  | succ n ih =>
    intro h e
    show 0 < ct f c n + (if f n = c then 1 else 0)
    by_cases q : j = n
    · subst q; rw [if_pos e]; omega
    · have := ih (by omega) e
      omega
theorem ct_front {f : Nat → Int32} {c : Int32} : ∀ n : Nat, ct f c (n + 1) = (if f 0 = c then 1 else 0) + ct (fun i => f (i + 1)) c n := by
  intro n
  induction n with
  | zero => show 0 + (if f 0 = c then 1 else 0) = (if f 0 = c then 1 else 0) + 0; omega
  | succ n ih =>
    show ct f c (n + 1) + (if f (n + 1) = c then 1 else 0) = (if f 0 = c then 1 else 0) + (ct (fun i => f (i + 1)) c n + (if f (n + 1) = c then 1 else 0))
    rw [ih]
    omega
theorem ct_rev {f : Nat → Int32} {c : Int32} : ∀ n : Nat, ct (fun i => f (n - 1 - i)) c n = ct f c n := by
  intro n
  induction n with
  | zero => rfl
  | succ n ih =>
    rw [ct_front]
    show (if f (n + 1 - 1 - 0) = c then 1 else 0) + ct (fun i => f (n + 1 - 1 - (i + 1))) c n = ct f c n + (if f n = c then 1 else 0)
    rw [ct_same (f := fun i => f (n + 1 - 1 - (i + 1))) (g := fun i => f (n - 1 - i)) n (fun j hj => by show f _ = f _; congr 1; omega), ih, show n + 1 - 1 - 0 = n by omega]
    omega
def asc (f : Nat → Int32) (n : Nat) : Prop := ∀ i j : Nat, i < j → j < n → f i ≤ f j
theorem leT {x y z : Int32} (h1 : x ≤ y) (h2 : y ≤ z) : x ≤ z := by rw [le_toInt] at *; omega
theorem leR {x : Int32} : x ≤ x := by rw [le_toInt]; omega
theorem leA {x y : Int32} (h1 : x ≤ y) (h2 : y ≤ x) : x = y := by rw [le_toInt] at *; exact Int32.toInt_inj.mp (by omega)
theorem uniq {f g : Nat → Int32} : ∀ n : Nat, asc f n → asc g n → (∀ c, ct f c n = ct g c n) → ∀ i, i < n → f i = g i := by
  intro n
  induction n with
  | zero => intro _ _ _ i hi; exact absurd hi (by omega)
  | succ n ih =>
    intro hf hg hc i hi
    have top : ∀ {p q : Nat → Int32}, asc q (n + 1) → (∀ c, ct p c (n + 1) = ct q c (n + 1)) → p n ≤ q n := by
      intro p q hq h
      obtain ⟨j, hj, ej⟩ := ct_ex (f := q) (c := p n) (n + 1) (by rw [← h]; exact ct_pos (n + 1) (by omega) rfl)
      rw [← ej]
      by_cases e : j = n
      · rw [e]; exact leR
      · exact hq j n (by omega) (by omega)
    have e : f n = g n := leA (top hg hc) (top hf (fun c => (hc c).symm))
    by_cases q : i = n
    · rw [q]; exact e
    · refine ih (fun a b h1 h2 => hf a b h1 (by omega)) (fun a b h1 h2 => hg a b h1 (by omega)) (fun c => ?_) i (by omega)
      have h : ct f c n + (if f n = c then 1 else 0) = ct g c n + (if g n = c then 1 else 0) := hc c
      rw [e] at h
      omega
/-- one more comes into a sorted row -/
theorem ins_l {z x : Int32} {m : Nat} (hm : m < 20) : ∀ (n a : Nat) (V : Nat → Int32), a ≤ m → a < n → (∀ i j, i < j → j < a → V i ≤ V j) → (∀ i j, a < i → i < j → j ≤ m → V i ≤ V j) → (∀ i j, i < a → a < j → j ≤ m → V i ≤ V j) → (∀ j, a < j → j ≤ m → x ≤ V j) →
    asc (lp22_X3_insert z x n (nI a) V).1 (m + 1) ∧ (∀ c, ct (lp22_X3_insert z x n (nI a) V).1 c (m + 1) = ct (upd V a x) c (m + 1)) ∧ (lp22_X3_insert z x n (nI a) V).2 = z + 1 := by
  intro n
  induction n with
  | zero => intro a V _ h; exact absurd h (by omega)
  | succ n ih =>
    intro a V ha hn h1 h2 h3 h4
    rw [lp22_X3_insert_s]
    dsimp only
    rw [xI (show a < 1000 by omega)]
    have fin : (a = 0 ∨ V (a - 1) ≤ x) → asc (upd V a x) (m + 1) := by
      intro hx i j hij hj
      by_cases e1 : j = a
      · subst e1
        rw [pk_us, pk_un (by omega)]
        rcases hx with q | q
        · omega
        · by_cases e3 : i = j - 1
          · rw [e3]; exact q
          · exact leT (h1 i (j - 1) (by omega) (by omega)) q
      · rw [pk_un e1]
        by_cases e2 : i = a
        · subst e2; rw [pk_us]; exact h4 j (by omega) (by omega)
        · rw [pk_un e2]
          by_cases e4 : j < a
          · exact h1 i j hij e4
          · by_cases e5 : i < a
            · exact h3 i j e5 (by omega) (by omega)
            · exact h2 i j (by omega) hij (by omega)
    by_cases c1 : nI a ≤ 0
    · rw [if_pos c1]
      have a0 : a = 0 := by rw [le_toInt, tI (by omega), i0] at c1; omega
      exact ⟨fin (Or.inl a0), fun _ => rfl, rfl⟩
    · rw [if_neg c1]
      have a0 : 0 < a := by rw [le_toInt, tI (by omega), i0] at c1; omega
      obtain ⟨d, rfl⟩ : ∃ d, a = d + 1 := ⟨a - 1, by omega⟩
      rw [nI_pred, xI (show d < 1000 by omega), pk_m1]
      by_cases c2 : V d ≤ x
      · rw [if_pos c2]
        exact ⟨fin (Or.inr c2), fun _ => rfl, rfl⟩
      · rw [if_neg c2]
        have c3 : x ≤ V d := by rw [le_toInt] at *; omega
        have r := ih d (upd V (d + 1) (V d)) (by omega) (by omega) (fun i j p q => by rw [pk_un (by omega), pk_un (by omega)]; exact h1 i j p (by omega))
          (fun i j p q w => by
            rw [pk_un (show j ≠ d + 1 by omega)]
            by_cases e : i = d + 1
            · rw [e, pk_us]; exact h3 d j (by omega) (by omega) w
            · rw [pk_un e]; exact h2 i j (by omega) q w)
          (fun i j p q w => by
            rw [pk_un (show i ≠ d + 1 by omega)]
            by_cases e : j = d + 1
            · rw [e, pk_us]; exact h1 i d p (by omega)
            · rw [pk_un e]; exact h3 i j (by omega) (by omega) w)
          (fun j p w => by
            by_cases e : j = d + 1
            · rw [e, pk_us]; exact c3
            · rw [pk_un e]; exact h4 j (by omega) w)
        refine ⟨r.1, fun c => (r.2.1 c).trans ?_, r.2.2⟩
        have q1 := ct_upd (f := upd V (d + 1) (V d)) (c := c) (x := x) (k := d) (m + 1) (by omega)
        have q2 := ct_upd (f := V) (c := c) (x := V d) (k := d + 1) (m + 1) (by omega)
        have q3 := ct_upd (f := V) (c := c) (x := x) (k := d + 1) (m + 1) (by omega)
        rw [pk_un (show d ≠ d + 1 by omega)] at q1
        omega
theorem ins_s {x : Int32} {m : Nat} {V : Nat → Int32} (hm : m < 20) (h : asc V m) : asc (sp_X3_insert V (nI m) x).1 (m + 1) ∧ (∀ c, ct (sp_X3_insert V (nI m) x).1 c (m + 1) = ct V c m + (if x = c then 1 else 0)) ∧ (sp_X3_insert V (nI m) x).2 = nI (m + 1) := by
  unfold sp_X3_insert
  rw [if_neg (nI_pos (by omega)), if_pos (by rw [lt_toInt, tI (by omega), show (20 : Int32).toInt = 20 from by decide]; omega)]
  obtain ⟨r1, r2, r3⟩ := ins_l (z := nI m) (x := x) hm 21 m V (Nat.le_refl m) (by omega) (fun i j p q => h i j p q) (fun i j p q w => by omega) (fun i j p q w => by omega) (fun j p w => by omega)
  refine ⟨r1, fun c => ?_, by rw [r3, nI_1]⟩
  rw [r2]
  show ct (upd V m x) c m + (if upd V m x m = c then 1 else 0) = _
  rw [ct_out (Nat.le_refl m), pk_us]
/-- two places of a row changed for each other -/
theorem ct_sw {f : Nat → Int32} {c : Int32} {k x n : Nat} (hk : k < n) (hx : x < n) (hkx : k ≠ x) : ct (upd (upd f k (f x)) x (f k)) c n = ct f c n := by
  have q1 := ct_upd (f := upd f k (f x)) (c := c) (x := f k) (k := x) n hx
  have q2 := ct_upd (f := f) (c := c) (x := f x) (k := k) n hk
  rw [pk_un (show x ≠ k by omega)] at q1
  omega
/-- the model's sorting of row 4 -/
theorem so4_in {N : Nat → Int32} {m k : Nat} (hm : m ≤ 20) (hk : k < m) {f0 : Nat → Int32} {Z0 : Nat → Nat → Int32} {K : Int32 → (Nat → Nat → Int32) → Nat → Nat → Int32}
    (hK : ∀ Z : Nat → Nat → Int32, (∀ c, c ≠ 4 → Z c = Z0 c) → (∀ c, ct (Z 4) c m = ct f0 c m) → (∀ i j, i < k + 1 → i < j → j < m → (Z 4) i ≤ (Z 4) j) → (∀ c, c ≠ 4 → (K (nI k + 1) Z) c = Z0 c) ∧ (∀ c, ct ((K (nI k + 1) Z) 4) c m = ct f0 c m) ∧ ∀ i j, i < j → j < m → ((K (nI k + 1) Z) 4) i ≤ ((K (nI k + 1) Z) 4) j) :
    ∀ (n x : Nat) (Z : Nat → Nat → Int32), k < x → x ≤ m → m - x < n → (∀ c, c ≠ 4 → Z c = Z0 c) → (∀ c, ct (Z 4) c m = ct f0 c m) → (∀ i j, i < k → i < j → j < m → (Z 4) i ≤ (Z 4) j) → (∀ j, k < j → j < x → Z 4 k ≤ Z 4 j) →
    (∀ c, c ≠ 4 → (lp12_X6_sorts5 N (nI m) (1 : Int32) (nI k) K n (nI x) Z) c = Z0 c) ∧ (∀ c, ct ((lp12_X6_sorts5 N (nI m) (1 : Int32) (nI k) K n (nI x) Z) 4) c m = ct f0 c m) ∧ ∀ i j, i < j → j < m → ((lp12_X6_sorts5 N (nI m) (1 : Int32) (nI k) K n (nI x) Z) 4) i ≤ ((lp12_X6_sorts5 N (nI m) (1 : Int32) (nI k) K n (nI x) Z) 4) j := by
  intro n
  induction n with
  | zero => intro x Z _ _ h; exact absurd h (by omega)
  | succ n ih =>
    intro x Z hkx hxm hn hZ hc hp hj
    rw [lp12_X6_sorts5_s]
    by_cases c1 : nI m ≤ nI x
    · rw [if_pos c1]
      have e : x = m := by rw [le_toInt, tI (by omega), tI (by omega)] at c1; omega
      subst e
      refine hK Z hZ hc (fun i j h1 h2 h3 => ?_)
      by_cases e : i = k
      · subst e; exact hj j h2 h3
      · exact hp i j (by omega) h2 h3
    · rw [if_neg c1]
      have hx : x < m := by rw [le_toInt, tI (by omega), tI (by omega)] at c1; omega
      rw [if_neg (by decide : ¬ (1 : Int32) = 0), nI_1, xI (show k < 1000 by omega), xI (show x < 1000 by omega)]
      by_cases c2 : Z 4 k ≤ Z 4 x
      · rw [if_pos c2]
        refine ih (x + 1) Z (by omega) (by omega) (by omega) hZ hc hp (fun j h1 h2 => ?_)
        by_cases e : j = x
        · subst e; exact c2
        · exact hj j h1 (by omega)
      · rw [if_neg c2]
        have e4 : zu (zu Z 4 k (Z 4 x)) 4 x (Z 4 k) 4 = upd (upd (Z 4) k (Z 4 x)) x (Z 4 k) := by rw [zu_s, zu_s]
        have c3 : Z 4 x ≤ Z 4 k := by rw [le_toInt] at *; omega
        have gk : (upd (upd (Z 4) k (Z 4 x)) x (Z 4 k)) k = Z 4 x := by rw [pk_un (by omega)]; exact pk_us
        have gx : (upd (upd (Z 4) k (Z 4 x)) x (Z 4 k)) x = Z 4 k := pk_us
        have go : ∀ j, j ≠ k → j ≠ x → (upd (upd (Z 4) k (Z 4 x)) x (Z 4 k)) j = Z 4 j := fun j h1 h2 => by rw [pk_un h2, pk_un h1]
        refine ih (x + 1) _ (by omega) (by omega) (by omega) (fun c hcc => by rw [zu_n hcc, zu_n hcc]; exact hZ c hcc) (fun c => by rw [e4, ct_sw hk hx (by omega)]; exact hc c) (fun i j h1 h2 h3 => ?_) (fun j h1 h2 => ?_)
        · rw [e4, go i (by omega) (by omega)]
          by_cases a1 : j = k
          · rw [a1, gk]; exact hp i x h1 (by omega) hx
          · by_cases a2 : j = x
            · rw [a2, gx]; exact hp i k h1 (by omega) hk
            · rw [go j a1 a2]; exact hp i j h1 h2 h3
        · rw [e4, gk]
          by_cases a2 : j = x
          · rw [a2, gx]; exact c3
          · rw [go j (by omega) a2]; exact leT c3 (hj j h1 (by omega))
theorem so4_out {N : Nat → Int32} {m : Nat} (hm : m ≤ 20) {f0 : Nat → Int32} {Z0 : Nat → Nat → Int32} : ∀ (n k : Nat) (Z : Nat → Nat → Int32), k ≤ m → m - k < n → (∀ c, c ≠ 4 → Z c = Z0 c) → (∀ c, ct (Z 4) c m = ct f0 c m) → (∀ i j, i < k → i < j → j < m → (Z 4) i ≤ (Z 4) j) →
    (∀ c, c ≠ 4 → (lp2_X6_sorts5 N (nI m) (1 : Int32) n (nI k) Z) c = Z0 c) ∧ (∀ c, ct ((lp2_X6_sorts5 N (nI m) (1 : Int32) n (nI k) Z) 4) c m = ct f0 c m) ∧ ∀ i j, i < j → j < m → ((lp2_X6_sorts5 N (nI m) (1 : Int32) n (nI k) Z) 4) i ≤ ((lp2_X6_sorts5 N (nI m) (1 : Int32) n (nI k) Z) 4) j := by
  intro n
  induction n with
  | zero => intro k Z _ h; exact absurd h (by omega)
  | succ n ih =>
    intro k Z hkm hn hZ hc hp
    rw [lp2_X6_sorts5_s]
    by_cases c1 : nI m ≤ nI k
    · rw [if_pos c1]
      have e : k = m := by rw [le_toInt, tI (by omega), tI (by omega)] at c1; omega
      subst e
      exact ⟨hZ, hc, fun i j h1 h2 => hp i j (by omega) h1 h2⟩
    · rw [if_neg c1]
      have hk : k < m := by rw [le_toInt, tI (by omega), tI (by omega)] at c1; omega
      rw [nI_1]
      exact so4_in hm hk (fun Y h1 h2 h3 => by rw [nI_1]; exact ih (k + 1) Y (by omega) (by omega) h1 h2 h3) 21 (k + 1) Z (by omega) (by omega) (by omega) hZ hc hp (fun j h1 h2 => by omega)
theorem so4 {N : Nat → Int32} {m : Nat} (hm : m ≤ 20) {Z : Nat → Nat → Int32} : (∀ c, c ≠ 4 → (sp_X6_sorts5 N Z (nI m) (1 : Int32)) c = Z c) ∧ (∀ c, ct ((sp_X6_sorts5 N Z (nI m) (1 : Int32)) 4) c m = ct (Z 4) c m) ∧ ∀ i j, i < j → j < m → ((sp_X6_sorts5 N Z (nI m) (1 : Int32)) 4) i ≤ ((sp_X6_sorts5 N Z (nI m) (1 : Int32)) 4) j :=
  so4_out hm 21 0 Z (by omega) (by omega) (fun _ _ => rfl) (fun _ => rfl) (fun i j h => absurd h (by omega))
/-- the model's sorting of row 5 -/
theorem so5_in {N : Nat → Int32} {m k : Nat} (hm : m ≤ 20) (hk : k < m) {f0 : Nat → Int32} {Z0 : Nat → Nat → Int32} {K : Int32 → (Nat → Nat → Int32) → Nat → Nat → Int32}
    (hK : ∀ Z : Nat → Nat → Int32, (∀ c, c ≠ 5 → Z c = Z0 c) → (∀ c, ct (Z 5) c m = ct f0 c m) → (∀ i j, i < k + 1 → i < j → j < m → (Z 5) j ≤ (Z 5) i) → (∀ c, c ≠ 5 → (K (nI k + 1) Z) c = Z0 c) ∧ (∀ c, ct ((K (nI k + 1) Z) 5) c m = ct f0 c m) ∧ ∀ i j, i < j → j < m → ((K (nI k + 1) Z) 5) j ≤ ((K (nI k + 1) Z) 5) i) :
    ∀ (n x : Nat) (Z : Nat → Nat → Int32), k < x → x ≤ m → m - x < n → (∀ c, c ≠ 5 → Z c = Z0 c) → (∀ c, ct (Z 5) c m = ct f0 c m) → (∀ i j, i < k → i < j → j < m → (Z 5) j ≤ (Z 5) i) → (∀ j, k < j → j < x → Z 5 j ≤ Z 5 k) →
    (∀ c, c ≠ 5 → (lp12_X6_sorts6 N (nI m) (0 : Int32) (nI k) K n (nI x) Z) c = Z0 c) ∧ (∀ c, ct ((lp12_X6_sorts6 N (nI m) (0 : Int32) (nI k) K n (nI x) Z) 5) c m = ct f0 c m) ∧ ∀ i j, i < j → j < m → ((lp12_X6_sorts6 N (nI m) (0 : Int32) (nI k) K n (nI x) Z) 5) j ≤ ((lp12_X6_sorts6 N (nI m) (0 : Int32) (nI k) K n (nI x) Z) 5) i := by
  intro n
  induction n with
  | zero => intro x Z _ _ h; exact absurd h (by omega)
  | succ n ih =>
    intro x Z hkx hxm hn hZ hc hp hj
    rw [lp12_X6_sorts6_s]
    by_cases c1 : nI m ≤ nI x
    · rw [if_pos c1]
      have e : x = m := by rw [le_toInt, tI (by omega), tI (by omega)] at c1; omega
      subst e
      refine hK Z hZ hc (fun i j h1 h2 h3 => ?_)
      by_cases e : i = k
      · subst e; exact hj j h2 h3
      · exact hp i j (by omega) h2 h3
    · rw [if_neg c1]
      have hx : x < m := by rw [le_toInt, tI (by omega), tI (by omega)] at c1; omega
      rw [if_pos rfl, nI_1, xI (show k < 1000 by omega), xI (show x < 1000 by omega)]
      by_cases c2 : Z 5 x ≤ Z 5 k
      · rw [if_pos c2]
        refine ih (x + 1) Z (by omega) (by omega) (by omega) hZ hc hp (fun j h1 h2 => ?_)
        by_cases e : j = x
        · subst e; exact c2
        · exact hj j h1 (by omega)
      · rw [if_neg c2]
        have e4 : zu (zu Z 5 k (Z 5 x)) 5 x (Z 5 k) 5 = upd (upd (Z 5) k (Z 5 x)) x (Z 5 k) := by rw [zu_s, zu_s]
        have c3 : Z 5 k ≤ Z 5 x := by rw [le_toInt] at *; omega
        have gk : (upd (upd (Z 5) k (Z 5 x)) x (Z 5 k)) k = Z 5 x := by rw [pk_un (by omega)]; exact pk_us
        have gx : (upd (upd (Z 5) k (Z 5 x)) x (Z 5 k)) x = Z 5 k := pk_us
        have go : ∀ j, j ≠ k → j ≠ x → (upd (upd (Z 5) k (Z 5 x)) x (Z 5 k)) j = Z 5 j := fun j h1 h2 => by rw [pk_un h2, pk_un h1]
        refine ih (x + 1) _ (by omega) (by omega) (by omega) (fun c hcc => by rw [zu_n hcc, zu_n hcc]; exact hZ c hcc) (fun c => by rw [e4, ct_sw hk hx (by omega)]; exact hc c) (fun i j h1 h2 h3 => ?_) (fun j h1 h2 => ?_)
        · rw [e4, go i (by omega) (by omega)]
          by_cases a1 : j = k
          · rw [a1, gk]; exact hp i x h1 (by omega) hx
          · by_cases a2 : j = x
            · rw [a2, gx]; exact hp i k h1 (by omega) hk
            · rw [go j a1 a2]; exact hp i j h1 h2 h3
        · rw [e4, gk]
          by_cases a2 : j = x
          · rw [a2, gx]; exact c3
          · rw [go j (by omega) a2]; exact leT (hj j h1 (by omega)) c3
theorem so5_out {N : Nat → Int32} {m : Nat} (hm : m ≤ 20) {f0 : Nat → Int32} {Z0 : Nat → Nat → Int32} : ∀ (n k : Nat) (Z : Nat → Nat → Int32), k ≤ m → m - k < n → (∀ c, c ≠ 5 → Z c = Z0 c) → (∀ c, ct (Z 5) c m = ct f0 c m) → (∀ i j, i < k → i < j → j < m → (Z 5) j ≤ (Z 5) i) →
    (∀ c, c ≠ 5 → (lp2_X6_sorts6 N (nI m) (0 : Int32) n (nI k) Z) c = Z0 c) ∧ (∀ c, ct ((lp2_X6_sorts6 N (nI m) (0 : Int32) n (nI k) Z) 5) c m = ct f0 c m) ∧ ∀ i j, i < j → j < m → ((lp2_X6_sorts6 N (nI m) (0 : Int32) n (nI k) Z) 5) j ≤ ((lp2_X6_sorts6 N (nI m) (0 : Int32) n (nI k) Z) 5) i := by
  intro n
  induction n with
  | zero => intro k Z _ h; exact absurd h (by omega)
  | succ n ih =>
    intro k Z hkm hn hZ hc hp
    rw [lp2_X6_sorts6_s]
    by_cases c1 : nI m ≤ nI k
    · rw [if_pos c1]
      have e : k = m := by rw [le_toInt, tI (by omega), tI (by omega)] at c1; omega
      subst e
      exact ⟨hZ, hc, fun i j h1 h2 => hp i j (by omega) h1 h2⟩
    · rw [if_neg c1]
      have hk : k < m := by rw [le_toInt, tI (by omega), tI (by omega)] at c1; omega
      rw [nI_1]
      exact so5_in hm hk (fun Y h1 h2 h3 => by rw [nI_1]; exact ih (k + 1) Y (by omega) (by omega) h1 h2 h3) 21 (k + 1) Z (by omega) (by omega) (by omega) hZ hc hp (fun j h1 h2 => by omega)
theorem so5 {N : Nat → Int32} {m : Nat} (hm : m ≤ 20) {Z : Nat → Nat → Int32} : (∀ c, c ≠ 5 → (sp_X6_sorts6 N Z (nI m) (0 : Int32)) c = Z c) ∧ (∀ c, ct ((sp_X6_sorts6 N Z (nI m) (0 : Int32)) 5) c m = ct (Z 5) c m) ∧ ∀ i j, i < j → j < m → ((sp_X6_sorts6 N Z (nI m) (0 : Int32)) 5) j ≤ ((sp_X6_sorts6 N Z (nI m) (0 : Int32)) 5) i :=
  so5_out hm 21 0 Z (by omega) (by omega) (fun _ _ => rfl) (fun _ => rfl) (fun i j h => absurd h (by omega))
section PS
variable {N G : Nat → Int32} {Z : Nat → Nat → Int32} {b : Int}
theorem sumI_rev {f : Nat → Int32} : ∀ n : Nat, sumI (fun i => f (n - 1 - i)) n 0 = sumI f n 0 := by
  intro n
  induction n with
  | zero => rfl
  | succ n ih =>
    rw [sumI_snoc (f := f)]
    have e : sumI (fun i => f (n + 1 - 1 - i)) (n + 1) 0 = f n + sumI (fun i => f (n + 1 - 1 - i)) n 1 := rfl
    have sh : ∀ (g : Nat → Int32) (k i : Nat), sumI g k (i + 1) = sumI (fun j => g (j + 1)) k i := by
      intro g k
      induction k with
      | zero => intro i; rfl
      | succ k ih2 => intro i; show g (i + 1) + sumI g k (i + 1 + 1) = g (i + 1) + sumI (fun j => g (j + 1)) k (i + 1); rw [ih2 (i + 1)]
    rw [e, sh, sumI_same (f := fun i => f (n - 1 - i)) n 0 (fun j _ hj => by show f _ = f _; congr 1; omega), ih, Nat.zero_add, Int32.add_comm]
/-- the class's sum -/
theorem sc_l {m : Nat} (hm : m ≤ 20) {x : Int32} {K : Int32 → (Nat → Int32) → Int32 → (Nat → Int32) → Int32 → Int32 × ((Nat → Int32) × Int32 × (Nat → Int32) × Int32)} {V U : Nat → Int32} : ∀ (k fuel i : Nat) (v : Int32), i + k = m → k < fuel → (lp68_X4_shortestWalk N G x K fuel v (nI i) V (nI m) U (nI m)).1 = v + sumI (fun j => V j * U (m - 1 - j)) k i := by
  intro k
  induction k with
  | zero =>
    intro fuel i v hk hf
    cases fuel with
    | zero => exact absurd hf (by omega)
    | succ f => rw [lp68_X4_shortestWalk_s, if_pos (nI_le (by omega) (by omega))]; exact (Int32.add_zero v).symm
  | succ k ih =>
    intro fuel i v hk hf
    cases fuel with
    | zero => exact absurd hf (by omega)
    | succ f =>
      have c : ¬ nI m ≤ nI i := nI_ge (by omega) (by omega)
      have c2 : ¬ nI m ≤ nI (m - 1 - i) := nI_ge (by omega) (by omega)
      obtain ⟨p, hp⟩ : ∃ p, m = p + 1 := ⟨m - 1, by omega⟩
      have e1 : nI m - 1 - nI i = nI (m - 1 - i) := by rw [hp, nI_pred, pk_sub (by omega), show p + 1 - 1 - i = p - i by omega]
      rw [lp68_X4_shortestWalk_s, if_neg c]
      unfold sp_X3_valueAt
      rw [e1, if_neg (nI_pos (by omega)), if_neg c, if_neg (nI_pos (by omega)), if_neg c2, xI (show i < 1000 by omega), xI (show m - 1 - i < 1000 by omega), nI_1, ih f (i + 1) _ (by omega) (by omega), Int32.add_assoc]
      rfl
/-- the model's sum -/
theorem sm_l {m : Nat} (hm : m ≤ 20) {x : Int32} {K : Int32 → Int32 → (Nat → Nat → Int32) → Int32 × (Nat → Nat → Int32)} {Z : Nat → Nat → Int32} : ∀ (k fuel i : Nat) (v : Int32), i + k = m → k < fuel → lp98_X6_atBest N x (nI m) K fuel v (nI i) Z = (v + sumI (fun j => Z 4 j * Z 5 j) k i, Z) := by
  intro k
  induction k with
  | zero =>
    intro fuel i v hk hf
    cases fuel with
    | zero => exact absurd hf (by omega)
    | succ f => rw [lp98_X6_atBest_s, if_pos (nI_le (by omega) (by omega))]; exact congrArg (fun q => (q, Z)) (Int32.add_zero v).symm
  | succ k ih =>
    intro fuel i v hk hf
    cases fuel with
    | zero => exact absurd hf (by omega)
    | succ f =>
      have c : ¬ nI m ≤ nI i := nI_ge (by omega) (by omega)
      rw [lp98_X6_atBest_s, if_neg c, xI (show i < 1000 by omega), nI_1, ih f (i + 1) _ (by omega) (by omega), Int32.add_assoc]
      rfl
theorem ab_l (h : wf b N G) {s : Nat} (hs4 : s < 4) : ∀ (k fuel i m : Nat) (V U : Nat → Int32) (Y : Nat → Nat → Int32), (N 0).toInt = (i : Int) + (k : Int) → k < fuel → m ≤ i → asc V m → asc U m → (∀ c, ct V c m = ct (Y 5) c m) → (∀ c, ct U c m = ct (Y 4) c m) → (∀ c, c ≠ 4 → c ≠ 5 → Y c = Z c) →
    (lp13_X4_shortestWalk N G (nI s) fuel (nI i) V (nI m) U (nI m)).1 = (lp15_X6_atBest N (nI s) fuel (nI m) (nI i) Y).1 ∧ ∀ c, c ≠ 4 → c ≠ 5 → (lp15_X6_atBest N (nI s) fuel (nI m) (nI i) Y).2 c = Z c := by
  intro k
  induction k with
  | zero =>
    intro fuel i m V U Y hk hf hmi hV hU cV cU hY
    cases fuel with
    | zero => exact absurd hf (by omega)
    | succ f =>
      have h20 := h.sf.2.1
      have hm : m ≤ 20 := by omega
      rw [lp13_X4_shortestWalk_s, lp15_X6_atBest_s, if_pos (cend h.sf hk), if_pos (cend h.sf hk)]
      dsimp only
      obtain ⟨p1, p2, p3⟩ := so4 (N := N) hm (Z := Y)
      generalize sp_X6_sorts5 N Y (nI m) (1 : Int32) = Y1 at *
      obtain ⟨q1, q2, q3⟩ := so5 (N := N) hm (Z := Y1)
      generalize sp_X6_sorts6 N Y1 (nI m) (0 : Int32) = Y2 at *
      have f4 : Y2 4 = Y1 4 := q1 4 (by decide)
      have f5 : Y1 5 = Y 5 := p1 5 (by decide)
      have s1 : lp98_X6_atBest N (nI s) (nI m) (lp15_X6_atBest N (nI s) f) 21 0 0 Y2 = (0 + sumI (fun j => Y2 4 j * Y2 5 j) m 0, Y2) := sm_l hm m 21 0 0 (by omega) (by omega)
      have s2 : (lp68_X4_shortestWalk N G (nI s) (lp13_X4_shortestWalk N G (nI s) f) 21 0 0 V (nI m) U (nI m)).1 = 0 + sumI (fun j => V j * U (m - 1 - j)) m 0 := sc_l hm m 21 0 0 (by omega) (by omega)
      rw [s1, s2]
      refine ⟨?_, fun c h1 h2 => (q1 c h2).trans ((p1 c h1).trans (hY c h1 h2))⟩
      have eU : ∀ i, i < m → U i = Y2 4 i := uniq m hU (fun i j a1 a2 => by rw [f4]; exact p3 i j a1 a2) (fun c => by rw [f4, p2]; exact cU c)
      have eV : ∀ i, i < m → V i = Y2 5 (m - 1 - i) := uniq m hV (fun i j a1 a2 => q3 (m - 1 - j) (m - 1 - i) (by omega) (by omega)) (fun c => by rw [ct_rev, q2, f5]; exact cV c)
      show (0 : Int32) + sumI (fun j => V j * U (m - 1 - j)) m 0 = 0 + sumI (fun j => Y2 4 j * Y2 5 j) m 0
      rw [← sumI_rev (f := fun j => Y2 4 j * Y2 5 j) m]
      refine congrArg (fun q => (0 : Int32) + q) (sumI_same m 0 (fun j _ hj => ?_))
      show V j * U (m - 1 - j) = Y2 4 (m - 1 - j) * Y2 5 (m - 1 - j)
      rw [eV j (by omega), eU _ (by omega), Int32.mul_comm]
  | succ k ih =>
    intro fuel i m V U Y hk hf hmi hV hU cV cU hY
    cases fuel with
    | zero => exact absurd hf (by omega)
    | succ f =>
      obtain ⟨c1, hi⟩ := cgo h.sf hk
      have h20 := h.n20 hi
      rw [lp13_X4_shortestWalk_s, lp15_X6_atBest_s, if_neg c1, if_neg c1, o6 h20]
      rcases (h.g hi).p with hp | ⟨t, ht, hp⟩
      · rw [if_pos ((pplaced h20 (h.g hi).p).mpr hp), if_pos hp, nI_1]
        exact ih f (i + 1) m V U Y (by omega) (by omega) (by omega) hV hU cV cU hY
      · have hn : ¬ N (22 + 11 * i) = -1 := by rw [hp]; exact nI_nm1 (by omega)
        rw [if_neg (fun q => hn ((pplaced h20 (h.g hi).p).mp q)), if_neg hn]
        dsimp only
        rw [od h20 hs4, d4 h20 hs4, xI (show i < 1000 by omega), xI (show m < 1000 by omega), hp, wkT' t ht, nI_1, nI_1]
        obtain ⟨v1, v2, v3⟩ := ins_s (x := N (18 + 11 * i + s)) (show m < 20 by omega) hV
        obtain ⟨u1, u2, u3⟩ := ins_s (x := sp_X6_walk (nI t)) (show m < 20 by omega) hU
        rw [v3, u3]
        have e5 : zu (zu Y 4 m (sp_X6_walk (nI t))) 5 m (N (18 + 11 * i + s)) 5 = upd (Y 5) m (N (18 + 11 * i + s)) := by rw [zu_s, zu_n (by decide)]
        have e4 : zu (zu Y 4 m (sp_X6_walk (nI t))) 5 m (N (18 + 11 * i + s)) 4 = upd (Y 4) m (sp_X6_walk (nI t)) := by rw [zu_n (by decide), zu_s]
        have cs : ∀ (g : Nat → Int32) (w c : Int32), ct (upd g m w) c (m + 1) = ct g c m + (if w = c then 1 else 0) := by
          intro g w c
          show ct (upd g m w) c m + (if upd g m w m = c then 1 else 0) = _
          rw [ct_out (Nat.le_refl m), pk_us]
        refine ih f (i + 1) (m + 1) _ _ _ (by omega) (by omega) (by omega) v1 u1 (fun c => ?_) (fun c => ?_) (fun c h1 h2 => ?_)
        · rw [e5, cs, v2, cV]
        · rw [e4, cs, u2, cU]
        · rw [zu_n h2, zu_n h1]; exact hY c h1 h2
theorem r_atBest (h : wf b N G) {V U : Nat → Int32} {z y x : Int32} : (if sp_X5_isSeason x = 0 then ((-1 : Int32), (V, z, U, y)) else sp_X4_shortestWalk N G V z U y x).1 = (sp_X6_atBest N Z x).1 ∧ za Z (sp_X6_atBest N Z x).2 := by
  unfold sp_X6_atBest
  by_cases c : ∃ s : Nat, s < 4 ∧ x = nI s
  · rw [if_neg (fun q => q46.mp q c), if_neg (fun q => q6.mp q c)]
    obtain ⟨s, hs, rfl⟩ := c
    have cc := cst h.sf
    obtain ⟨r1, r2⟩ := ab_l (Z := Z) h hs _ 21 0 0 V U Z cc.1 cc.2 (by omega) (fun i j _ hj => absurd hj (by omega)) (fun i j _ hj => absurd hj (by omega)) (fun _ => rfl) (fun _ => rfl) (fun _ _ _ => rfl)
    refine ⟨r1, ?_⟩
    have e := r2
    exact ⟨congrFun (e 0 (by decide) (by decide)) 0, congrFun (e 0 (by decide) (by decide)) 1, fun j _ => congrFun (e 1 (by decide) (by decide)) j, fun j _ => congrFun (e 3 (by decide) (by decide)) j⟩
  · rw [if_pos (q46.mpr c), if_pos (q6.mpr c)]
    exact ⟨rfl, za.rf⟩
end PS
