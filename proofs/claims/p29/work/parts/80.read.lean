/-! PURE: an order read: class and model -/
/-- the text behind its place: class and model -/
def txr (b : Int) (S q : Nat → Int32) (Z : Nat → Nat → Int32) : Prop := q 0 = Z 0 1 ∧ q 1 = Z 0 5 ∧ okT b Z ∧ ∀ j : Nat, (j : Int) < (Z 0 1).toInt → S j = Z 3 j
def cr (x y : Int32) : Prop := x = y ∨ (x = 32 ∧ y = 0)
theorem cr.eq {x y k : Int32} (h : cr x y) (h1 : ¬ (32 : Int32) = k) (h2 : ¬ (0 : Int32) = k) : x = k ↔ y = k := by
  rcases h with rfl | ⟨rfl, rfl⟩
  · exact Iff.rfl
  · exact ⟨fun q => absurd q h1, fun q => absurd q h2⟩
theorem cr.dig {x y : Int32} (h : cr x y) : sp_X1_isDigit x = sp_X6_in y 48 57 ∧ (¬ sp_X6_in y 48 57 = 0 → x = y) := by
  rcases h with rfl | ⟨rfl, rfl⟩
  · exact ⟨rfl, fun _ => rfl⟩
  · exact ⟨by decide, fun q => absurd (by decide) q⟩
section PT
variable {S q N : Nat → Int32} {Z : Nat → Nat → Int32} {b : Int}
theorem sg_at {v : Int32} (h0 : q 0 = Z 0 1) (h1 : q 1 = v) (hty : tyZ Z) (h2 : 0 ≤ v.toInt) (h3 : ∀ j : Nat, (j : Int) < (Z 0 1).toInt → S j = Z 3 j) : cr (sp_X1_nextSign S q) (sp_X6_signAt N Z v) := by
  unfold sp_X1_nextSign sp_X6_signAt
  rw [h1, h0, if_neg (by rw [lt_toInt, i0]; omega)]
  by_cases c : Z 0 1 ≤ v
  · rw [if_pos c, if_pos c]; exact Or.inr ⟨rfl, rfl⟩
  · rw [if_neg c, if_neg c]
    rw [le_toInt] at c
    have := hty.2
    rw [if_neg (by rw [le_toInt, i60]; omega)]
    obtain ⟨k, hk, e⟩ := nI_ofI h2
    rw [e, nI_toInt hk] at c
    rw [e, ixI hk]
    exact Or.inl (h3 k (by omega))
theorem txr.sg (h : txr b S q Z) : cr (sp_X1_nextSign S q) (sp_X6_signAt N Z (Z 0 5)) := sg_at h.1 h.2.1 h.2.2.1.2.2 h.2.2.1.1 h.2.2.2
theorem txr.inc {b' : Int} (h : txr b S q Z) (ho : okT b' (zu Z 0 5 (Z 0 5 + 1))) : txr b' S (upd q 1 (q 1 + 1)) (zu Z 0 5 (Z 0 5 + 1)) := by
  refine ⟨?_, ?_, ho, ?_⟩
  · rw [pk_un (by omega), zq (Or.inr (by decide))]; exact h.1
  · rw [pk_us, zqs, h.2.1]
  · rw [zq (Or.inr (by decide)), zu_n (by decide)]; exact h.2.2.2
theorem txr.z {b : Int} {k : Nat} {x : Int32} (hk : k = 6 ∨ k = 7 ∨ k = 8) (h : txr b S q Z) : txr b S q (zu Z 0 k x) := by
  refine ⟨?_, ?_, okT_zu (by omega) (by omega) h.2.2.1, ?_⟩
  · rw [zq (Or.inr (by omega))]; exact h.1
  · rw [zq (Or.inr (by omega))]; exact h.2.1
  · rw [zq (Or.inr (by omega)), zu_n (by decide)]; exact h.2.2.2
theorem txr.qu {b : Int} {k : Nat} {x : Int32} (hk : 2 ≤ k) (h : txr b S q Z) : txr b S (upd q k x) Z := by
  refine ⟨?_, ?_, h.2.2.1, h.2.2.2⟩
  · rw [pk_un (by omega)]; exact h.1
  · rw [pk_un (by omega)]; exact h.2.1
theorem ring_n {a c k d : Int32} : a * c + (k - d) = a * c + k - d := by grind
theorem dg_n {c : Int32} (h : ¬ sp_X6_in c 48 57 = 0) : ∃ k : Nat, k < 10 ∧ c - 48 = nI k := by
  have q := min_of h
  rw [show (48 : Int32).toInt = 48 from by decide, show (57 : Int32).toInt = 57 from by decide] at q
  have e : (c - 48).toInt = c.toInt - 48 := by rw [sub_toInt (by rw [show (48 : Int32).toInt = 48 from by decide]; omega) (by rw [show (48 : Int32).toInt = 48 from by decide]; omega), show (48 : Int32).toInt = 48 from by decide]
  obtain ⟨k, hk, e2⟩ := nat_of (n := 9) (x := c - 48) (by omega) (by omega)
  exact ⟨k, by omega, e2⟩
theorem nm_s (hb : 60 ≤ b) : ∀ (n d m : Nat) (q : Nat → Int32) (Z : Nat → Nat → Int32), d + n = 4 → m < 10 ^ d → txr b S q Z →
    (lp4_X1_readNumber S n (nI m) (nI d) q).1 = (lp4_X6_number N n (nI m) (nI d) Z).1 ∧ txr b S (lp4_X1_readNumber S n (nI m) (nI d) q).2 (lp4_X6_number N n (nI m) (nI d) Z).2 ∧ (∀ k, k ≠ 1 → (lp4_X1_readNumber S n (nI m) (nI d) q).2 k = q k) ∧ (n ≠ 0 → (lp4_X6_number N n (nI m) (nI d) Z).1 = -1 ∨ ∃ r : Nat, r < 1000 ∧ (lp4_X6_number N n (nI m) (nI d) Z).1 = nI r) := by
  intro n
  induction n with
  | zero => intro d m q Z _ _ h; exact ⟨rfl, h, fun _ _ => rfl, fun q => absurd rfl q⟩
  | succ n ih =>
    intro d m q Z hd hm h
    rw [lp4_X1_readNumber_s, lp4_X6_number_s]
    dsimp only
    by_cases c1 : (3 : Int32) ≤ nI d
    · rw [if_pos c1, if_pos c1]
      have d3 : d = 3 := by rw [le_toInt, tI (by omega), show (3 : Int32).toInt = 3 from by decide] at c1; omega
      subst d3
      rw [if_neg (by decide : ¬ nI 3 = 0), if_neg (by decide : ¬ nI 3 = 0)]
      exact ⟨rfl, h, fun _ _ => rfl, fun _ => Or.inr ⟨m, by omega, rfl⟩⟩
    · rw [if_neg c1, if_neg c1]
      have d3 : d < 3 := by rw [le_toInt, tI (by omega), show (3 : Int32).toInt = 3 from by decide] at c1; omega
      have s := h.sg (N := N)
      rw [s.dig.1]
      by_cases c2 : sp_X6_in (sp_X6_signAt N Z (Z 0 5)) 48 57 = 0
      · rw [if_pos c2, if_pos c2]
        by_cases c3 : nI d = 0
        · rw [if_pos c3, if_pos c3]; exact ⟨rfl, h, fun _ _ => rfl, fun _ => Or.inl rfl⟩
        · rw [if_neg c3, if_neg c3]
          have : 10 ^ d ≤ 10 ^ 3 := Nat.pow_le_pow_right (by omega) (by omega)
          exact ⟨rfl, h, fun _ _ => rfl, fun _ => Or.inr ⟨m, by omega, rfl⟩⟩
      · rw [if_neg c2, if_neg c2]
        obtain ⟨k, hk, ek⟩ := dg_n c2
        have hlt := dig_lt c2
        have e := s.dig.2 c2
        have ho : okT b (zu Z 0 5 (Z 0 5 + 1)) := by
          have h0 := h.2.2.1
          have e2 : (Z 0 5 + 1).toInt = (Z 0 5).toInt + 1 := inc_toInt hlt
          rw [le_toInt] at hlt
          have h60 := h0.2.2.2
          refine ⟨?_, ?_, ty_zu (by decide) h0.2.2⟩
          · rw [zqs, e2]; have := h0.1; omega
          · rw [zqs, e2]; omega
        have ev : ((10 : Int32) * nI m) + (sp_X1_nextSign S q - 48) = nI (10 * m + k) := by
          rw [e, ek, show (10 : Int32) = nI 10 from rfl, pk_mul, nI_add]
        have ev6 : (((10 : Int32) * nI m) + sp_X6_signAt N Z (Z 0 5)) - 48 = nI (10 * m + k) := by
          rw [← ring_n, ek, show (10 : Int32) = nI 10 from rfl, pk_mul, nI_add]
        rw [ev, ev6, nI_1]
        have hp : 10 ^ (d + 1) = 10 * 10 ^ d := by rw [Nat.pow_succ, Nat.mul_comm]
        obtain ⟨r1, r2, r3, r4⟩ := ih (d + 1) (10 * m + k) (upd q 1 (q 1 + 1)) (zu Z 0 5 (Z 0 5 + 1)) (by omega) (by omega) (h.inc ho)
        exact ⟨r1, r2, fun j hj => (r3 j hj).trans (pk_un hj), fun _ => r4 (by omega)⟩
theorem nmb (hb : 60 ≤ b) (h : txr b S q Z) : (sp_X1_readNumber S q).1 = (sp_X6_number N Z).1 ∧ txr b S (sp_X1_readNumber S q).2 (sp_X6_number N Z).2 ∧ (∀ k, k ≠ 1 → (sp_X1_readNumber S q).2 k = q k) ∧ ((sp_X6_number N Z).1 = -1 ∨ ∃ r : Nat, r < 1000 ∧ (sp_X6_number N Z).1 = nI r) := by
  obtain ⟨r1, r2, r3, r4⟩ := nm_s (N := N) hb 4 0 0 q Z rfl (by decide) h
  exact ⟨r1, r2, r3, r4 (by omega)⟩
theorem m1_iff {x : Int32} (h : x = -1 ∨ ∃ r : Nat, r < 1000 ∧ x = nI r) : x < 0 ↔ x = -1 := by
  rcases h with rfl | ⟨r, hr, rfl⟩
  · exact ⟨fun _ => rfl, fun _ => by decide⟩
  · exact ⟨fun q => absurd q (nI_pos (by omega)), fun q => absurd q (nI_nm1 hr)⟩
/-- the order's last sign -/
theorem fin_s (hb : b ≤ 1000) (h : txr b S q Z) : (sp_X1_readSign S q 59).1 = (rfin N Z).1 ∧ txr (b + 1) S (sp_X1_readSign S q 59).2 (rfin N Z).2 ∧ (∀ k, k ≠ 1 → (sp_X1_readSign S q 59).2 k = q k) ∧ (∀ k, k ≠ 5 → (rfin N Z).2 0 k = Z 0 k) := by
  have s := h.sg (N := N)
  have hmono : txr (b + 1) S q Z := ⟨h.1, h.2.1, ⟨h.2.2.1.1, by have := h.2.2.1.2.1; omega, h.2.2.1.2.2⟩, h.2.2.2⟩
  unfold sp_X1_readSign rfin
  by_cases c : sp_X6_signAt N Z (Z 0 5) = 59
  · rw [if_pos c, if_pos ((s.eq (by decide) (by decide)).mpr c)]
    exact ⟨rfl, h.inc (okT_inc hb h.2.2.1), fun k hk => pk_un hk, fun k hk => (zq (Or.inr hk) : zu Z 0 5 (Z 0 5 + 1) 0 k = Z 0 k)⟩
  · rw [if_neg c, if_neg (fun e => c ((s.eq (by decide) (by decide)).mp e))]
    exact ⟨rfl, hmono, fun _ _ => rfl, fun _ _ => rfl⟩
/-- an order's kind is one of five -/
def kin (k : Int32) : Prop := k = 119 ∨ k = 114 ∨ k = 112 ∨ k = 109 ∨ k = 120
/-- what an order that was read says: class and model -/
def orr (S q : Nat → Int32) (Z : Nat → Nat → Int32) : Prop := txr 100 S q Z ∧ q 2 = Z 0 6 ∧ (¬ Z 0 6 = 119 → q 3 = Z 0 7) ∧ (Z 0 6 = 112 ∨ Z 0 6 = 109 ∨ Z 0 6 = 120 → q 4 = Z 0 8) ∧ kin (Z 0 6)
theorem txr.mono {b' : Int} (hb : b ≤ b') (h : txr b S q Z) : txr b' S q Z := ⟨h.1, h.2.1, ⟨h.2.2.1.1, by have := h.2.2.1.2.1; omega, h.2.2.1.2.2⟩, h.2.2.2⟩
/-- both say the same of an order -/
def rdr (S : Nat → Int32) (l : Int32) (f4 : Int32 × (Nat → Int32)) (f6 : Int32 × (Nat → Nat → Int32)) : Prop := (f4.1 = 0 ↔ f6.1 = 0) ∧ (¬ f6.1 = 0 → orr S f4.2 f6.2) ∧ f4.2 0 = l
theorem rdr_no {l : Int32} (h : q 0 = l) : rdr S l (0, q) (0, Z) := ⟨Iff.rfl, fun q => absurd rfl q, h⟩
/-- the class's tail: a number, then the last sign -/
def c1T (S q : Nat → Int32) : Int32 × (Nat → Int32) := if (sp_X1_readNumber S q).1 < 0 then (0, upd (sp_X1_readNumber S q).2 3 (sp_X1_readNumber S q).1) else if (sp_X1_readSign S (upd (sp_X1_readNumber S q).2 3 (sp_X1_readNumber S q).1) 59).1 = 0 then (0, (sp_X1_readSign S (upd (sp_X1_readNumber S q).2 3 (sp_X1_readNumber S q).1) 59).2) else (1, (sp_X1_readSign S (upd (sp_X1_readNumber S q).2 3 (sp_X1_readNumber S q).1) 59).2)
def c2T (S q : Nat → Int32) : Int32 × (Nat → Int32) := if (sp_X1_readTwoNumbers S q).1 = 0 then (0, (sp_X1_readTwoNumbers S q).2) else if (sp_X1_readSign S (sp_X1_readTwoNumbers S q).2 59).1 = 0 then (0, (sp_X1_readSign S (sp_X1_readTwoNumbers S q).2 59).2) else (1, (sp_X1_readSign S (sp_X1_readTwoNumbers S q).2 59).2)
def c0 (S q : Nat → Int32) : Nat → Int32 := upd (upd q 2 (sp_X1_nextSign S q)) 1 (q 1 + 1)
theorem rdC : sp_X1_readOrder S q = if sp_X1_nextSign S q = 119 then sp_X1_readSign S (c0 S q) 59 else if sp_X1_nextSign S q = 114 then c1T S (c0 S q) else if sp_X1_nextSign S q = 112 ∨ sp_X1_nextSign S q = 109 ∨ sp_X1_nextSign S q = 120 then c2T S (c0 S q) else (0, c0 S q) := by
  have e1 : (upd q 2 (sp_X1_nextSign S q)) 1 = q 1 := pk_un (by omega)
  have e2 : (upd (upd q 2 (sp_X1_nextSign S q)) 1 (q 1 + 1)) 2 = sp_X1_nextSign S q := by rw [pk_un (by omega)]; exact pk_us
  unfold sp_X1_readOrder c1T c2T c0
  dsimp only
  rw [e1, e2]
  generalize sp_X1_nextSign S q = c
  have e3 : ∀ (A : Nat → Int32) (x : Int32), upd A 3 x 3 = x := fun A x => pk_us
  rw [e3]
  by_cases c109 : c = 109
  · subst c109
    rw [if_pos (rfl : (109 : Int32) = (109 : Int32)), if_neg (by decide : ¬ (109 : Int32) = (119 : Int32)), if_neg (by decide : ¬ (109 : Int32) = (114 : Int32)), if_pos (Or.inr (Or.inl rfl) : (109 : Int32) = 112 ∨ (109 : Int32) = 109 ∨ (109 : Int32) = 120)]
  · by_cases c112 : c = 112
    · subst c112
      rw [if_neg (by decide : ¬ (112 : Int32) = (109 : Int32)), if_neg (by decide : ¬ (112 : Int32) = (110 : Int32)), if_neg (by decide : ¬ (112 : Int32) = (111 : Int32)), if_pos (rfl : (112 : Int32) = (112 : Int32)), if_neg (by decide : ¬ (112 : Int32) = (119 : Int32)), if_neg (by decide : ¬ (112 : Int32) = (114 : Int32)), if_pos (Or.inl rfl : (112 : Int32) = 112 ∨ (112 : Int32) = 109 ∨ (112 : Int32) = 120)]
    · by_cases c114 : c = 114
      · subst c114
        rw [if_neg (by decide : ¬ (114 : Int32) = (109 : Int32)), if_neg (by decide : ¬ (114 : Int32) = (110 : Int32)), if_neg (by decide : ¬ (114 : Int32) = (111 : Int32)), if_neg (by decide : ¬ (114 : Int32) = (112 : Int32)), if_neg (by decide : ¬ (114 : Int32) = (113 : Int32)), if_pos (rfl : (114 : Int32) = (114 : Int32)), if_neg (by decide : ¬ (114 : Int32) = (119 : Int32)), if_pos (rfl : (114 : Int32) = (114 : Int32))]
      · by_cases c119 : c = 119
        · subst c119
          rw [if_neg (by decide : ¬ (119 : Int32) = (109 : Int32)), if_neg (by decide : ¬ (119 : Int32) = (110 : Int32)), if_neg (by decide : ¬ (119 : Int32) = (111 : Int32)), if_neg (by decide : ¬ (119 : Int32) = (112 : Int32)), if_neg (by decide : ¬ (119 : Int32) = (113 : Int32)), if_neg (by decide : ¬ (119 : Int32) = (114 : Int32)), if_neg (by decide : ¬ (119 : Int32) = (115 : Int32)), if_neg (by decide : ¬ (119 : Int32) = (116 : Int32)), if_neg (by decide : ¬ (119 : Int32) = (117 : Int32)), if_neg (by decide : ¬ (119 : Int32) = (118 : Int32)), if_pos (rfl : (119 : Int32) = (119 : Int32)), if_pos (rfl : (119 : Int32) = (119 : Int32))]
        · by_cases c120 : c = 120
          · subst c120
            rw [if_neg (by decide : ¬ (120 : Int32) = (109 : Int32)), if_neg (by decide : ¬ (120 : Int32) = (110 : Int32)), if_neg (by decide : ¬ (120 : Int32) = (111 : Int32)), if_neg (by decide : ¬ (120 : Int32) = (112 : Int32)), if_neg (by decide : ¬ (120 : Int32) = (113 : Int32)), if_neg (by decide : ¬ (120 : Int32) = (114 : Int32)), if_neg (by decide : ¬ (120 : Int32) = (115 : Int32)), if_neg (by decide : ¬ (120 : Int32) = (116 : Int32)), if_neg (by decide : ¬ (120 : Int32) = (117 : Int32)), if_neg (by decide : ¬ (120 : Int32) = (118 : Int32)), if_neg (by decide : ¬ (120 : Int32) = (119 : Int32)), if_pos (rfl : (120 : Int32) = (120 : Int32)), if_neg (by decide : ¬ (120 : Int32) = (119 : Int32)), if_neg (by decide : ¬ (120 : Int32) = (114 : Int32)), if_pos (Or.inr (Or.inr rfl) : (120 : Int32) = 112 ∨ (120 : Int32) = 109 ∨ (120 : Int32) = 120)]
          · have co : ¬ (c = 112 ∨ c = 109 ∨ c = 120) := by
              intro w
              rcases w with w | w | w
              · exact c112 w
              · exact c109 w
              · exact c120 w
            rw [if_neg c109, if_neg c112, if_neg c114, if_neg c119, if_neg c120, if_neg c119, if_neg c114, if_neg co]
            simp only [ite_self]
theorem fin_r (hb : b ≤ 99) {l : Int32} (h : txr b S q Z) (hl : q 0 = l) (h2 : q 2 = Z 0 6) (h3 : ¬ Z 0 6 = 119 → q 3 = Z 0 7) (h4 : Z 0 6 = 112 ∨ Z 0 6 = 109 ∨ Z 0 6 = 120 → q 4 = Z 0 8) (h5 : kin (Z 0 6)) : rdr S l (sp_X1_readSign S q 59) (rfin N Z) := by
  obtain ⟨f1, f2, f3, f4⟩ := fin_s (N := N) (by omega) h
  refine ⟨by rw [f1], fun _ => ⟨f2.mono (by omega), ?_, ?_, ?_, by rw [f4 6 (by omega)]; exact h5⟩, ?_⟩
  · rw [f3 2 (by omega), f4 6 (by omega)]; exact h2
  · rw [f3 3 (by omega), f4 6 (by omega), f4 7 (by omega)]; exact h3
  · rw [f3 4 (by omega), f4 6 (by omega), f4 8 (by omega)]; exact h4
  · rw [f3 0 (by omega)]; exact hl
theorem rdr_if {l : Int32} {f4 : Int32 × (Nat → Int32)} {f6 : Int32 × (Nat → Nat → Int32)} (h : rdr S l f4 f6) (hv : f4.1 = 0 ∨ f4.1 = 1) : rdr S l (if f4.1 = 0 then (0, f4.2) else (1, f4.2)) f6 := by
  rcases hv with e | e
  · rw [if_pos e]; exact ⟨by rw [← h.1, e], h.2.1, h.2.2⟩
  · rw [if_neg (by rw [e]; decide)]
    exact ⟨by rw [← h.1, e], h.2.1, h.2.2⟩
theorem rs_v {k : Int32} : (sp_X1_readSign S q k).1 = 0 ∨ (sp_X1_readSign S q k).1 = 1 := by
  unfold sp_X1_readSign
  by_cases c : sp_X1_nextSign S q = k
  · rw [if_pos c]; exact Or.inr rfl
  · rw [if_neg c]; exact Or.inl rfl
theorem rs_yes {k : Int32} (h : sp_X1_nextSign S q = k) : sp_X1_readSign S q k = (1, upd q 1 (q 1 + 1)) := if_pos h
theorem rs_no {k : Int32} (h : ¬ sp_X1_nextSign S q = k) : sp_X1_readSign S q k = (0, q) := if_neg h
/-- an order, read at the place v -/
theorem rd_s {v : Int32} (hty : tyZ Z) (h0 : q 0 = Z 0 1) (h1 : q 1 = v) (hv : 0 ≤ v.toInt) (hv2 : v.toInt ≤ 60) (hS : ∀ j : Nat, (j : Int) < (Z 0 1).toInt → S j = Z 3 j) : rdr S (q 0) (sp_X1_readOrder S q) (sp_X6_reads N Z v) := by
  rw [rd_eq hty hv hv2, rdC]
  unfold rdM
  have s : cr (sp_X1_nextSign S q) (sp_X6_signAt N Z v) := sg_at h0 h1 hty hv hS
  have ok := r4_ok (N := N) hty hv hv2
  have e6 : r4 N Z v 0 6 = sp_X6_signAt N Z v := r4_6
  have h61 : txr 61 S (c0 S q) (r4 N Z v) := by
    refine ⟨?_, ?_, ok, ?_⟩
    · unfold c0 r4
      rw [pk_un (by omega), pk_un (by omega), zq (Or.inr (by decide)), zq (Or.inr (by decide)), zq (Or.inr (by decide)), zq (Or.inr (by decide))]
      exact h0
    · unfold c0 r4
      rw [pk_us, zq (Or.inr (by decide)), zq (Or.inr (by decide)), zqs, h1]
    · have e1 : r4 N Z v 0 1 = Z 0 1 := by unfold r4; rw [zq (Or.inr (by decide)), zq (Or.inr (by decide)), zq (Or.inr (by decide)), zq (Or.inr (by decide))]
      have e3 : r4 N Z v 3 = Z 3 := by unfold r4; rw [zu_n (by decide), zu_n (by decide), zu_n (by decide), zu_n (by decide)]
      rw [e1, e3]
      exact hS
  have l0 : c0 S q 0 = q 0 := by unfold c0; rw [pk_un (by omega), pk_un (by omega)]
  have k2 : c0 S q 2 = sp_X1_nextSign S q := by unfold c0; rw [pk_un (by omega)]; exact pk_us
  generalize c0 S q = p at *
  generalize r4 N Z v = Y at *
  generalize sp_X6_signAt N Z v = c6 at *
  generalize sp_X1_nextSign S q = c4 at *
  by_cases c119 : c6 = 119
  · rw [if_pos c119, if_pos ((s.eq (by decide) (by decide)).mpr c119)]
    exact fin_r (by decide) h61 l0 (by rw [k2, e6, c119]; exact (s.eq (by decide) (by decide)).mpr c119) (fun w => absurd (e6.trans c119) w) (fun w => by rw [e6, c119] at w; exact absurd w (by decide)) (by rw [e6, c119]; exact Or.inl rfl)
  · rw [if_neg c119, if_neg (fun w => c119 ((s.eq (by decide) (by decide)).mp w))]
    obtain ⟨m1, m2, m3, m4⟩ := nmb (N := N) (by decide) h61
    have r7 : txr 61 S (upd (sp_X1_readNumber S p).2 3 (sp_X1_readNumber S p).1) (rnum 7 N Y) := (m2.z (Or.inr (Or.inl rfl))).qu (by omega)
    have v7 : rnum 7 N Y 0 7 = (sp_X6_number N Y).1 := by unfold rnum; exact zqs
    have w6 : rnum 7 N Y 0 6 = Y 0 6 := rnum_q ok (Or.inr (by decide)) (Or.inr (by decide))
    have p0 : (upd (sp_X1_readNumber S p).2 3 (sp_X1_readNumber S p).1) 0 = q 0 := by rw [pk_un (by omega), m3 0 (by omega)]; exact l0
    have p2 : (upd (sp_X1_readNumber S p).2 3 (sp_X1_readNumber S p).1) 2 = c4 := by rw [pk_un (by omega), m3 2 (by omega)]; exact k2
    have p3 : (upd (sp_X1_readNumber S p).2 3 (sp_X1_readNumber S p).1) 3 = (sp_X1_readNumber S p).1 := pk_us
    by_cases c114 : c6 = 114
    · rw [if_pos c114, if_pos ((s.eq (by decide) (by decide)).mpr c114)]
      have ec : c4 = 114 := (s.eq (by decide) (by decide)).mpr c114
      unfold c1T
      by_cases cm : (sp_X6_number N Y).1 = -1
      · have y1 : (sp_X1_readNumber S p).1 < 0 := by rw [m1]; exact (m1_iff m4).mpr cm
        have y2 : rnum 7 N Y 0 7 = -1 := v7.trans cm
        rw [if_pos y1, if_pos y2]
        exact rdr_no p0
      · have y1 : ¬ (sp_X1_readNumber S p).1 < 0 := by rw [m1]; exact fun w => cm ((m1_iff m4).mp w)
        have y2 : ¬ rnum 7 N Y 0 7 = -1 := by rw [v7]; exact cm
        rw [if_neg y1, if_neg y2]
        refine rdr_if (fin_r (by decide) r7 p0 ?_ (fun _ => ?_) (fun w => ?_) (by rw [w6, e6, c114]; exact Or.inr (Or.inl rfl))) rs_v
        · rw [p2, w6, e6, c114, ec]
        · rw [p3, v7, m1]
        · rw [w6, e6, c114] at w; exact absurd w (by decide)
    · rw [if_neg c114, if_neg (fun w => c114 ((s.eq (by decide) (by decide)).mp w))]
      have i112 := s.eq (k := 112) (by decide) (by decide)
      have i109 := s.eq (k := 109) (by decide) (by decide)
      have i120 := s.eq (k := 120) (by decide) (by decide)
      by_cases c3 : c6 = 112 ∨ c6 = 109 ∨ c6 = 120
      · have c3' : c4 = 112 ∨ c4 = 109 ∨ c4 = 120 := by rw [i112, i109, i120]; exact c3
        have ec : c4 = c6 := by
          rcases c3 with w | w | w
          · rw [w]; exact i112.mpr w
          · rw [w]; exact i109.mpr w
          · rw [w]; exact i120.mpr w
        rw [if_pos c3, if_pos c3']
        unfold c2T sp_X1_readTwoNumbers
        dsimp only
        by_cases cm : (sp_X6_number N Y).1 = -1
        · have y1 : (upd (sp_X1_readNumber S p).2 3 (sp_X1_readNumber S p).1) 3 < 0 := by rw [p3, m1]; exact (m1_iff m4).mpr cm
          have y2 : rnum 7 N Y 0 7 = -1 := v7.trans cm
          rw [if_pos y1, if_pos y2, if_pos (rfl : (0 : Int32) = 0)]
          exact rdr_no p0
        · have y1 : ¬ (upd (sp_X1_readNumber S p).2 3 (sp_X1_readNumber S p).1) 3 < 0 := by rw [p3, m1]; exact fun w => cm ((m1_iff m4).mp w)
          have y2 : ¬ rnum 7 N Y 0 7 = -1 := by rw [v7]; exact cm
          rw [if_neg y1, if_neg y2]
          unfold rtwo
          have v7' : (upd (sp_X1_readNumber S p).2 3 (sp_X1_readNumber S p).1) 3 = rnum 7 N Y 0 7 := by rw [p3, v7, m1]
          generalize upd (sp_X1_readNumber S p).2 3 (sp_X1_readNumber S p).1 = p' at *
          generalize rnum 7 N Y = Y' at *
          have s2 := r7.sg (N := N)
          by_cases cc : sp_X6_signAt N Y' (Y' 0 5) = 44
          · rw [if_pos cc, rs_yes ((s2.eq (by decide) (by decide)).mpr cc)]
            dsimp only
            rw [if_neg (by decide : ¬ (1 : Int32) = 0)]
            have ok62 := okT_inc (b := 61) (by decide) r7.2.2.1
            have r62 := r7.inc ok62
            obtain ⟨n1, n2, n3, n4⟩ := nmb (N := N) (by decide) r62
            have r8 : txr 62 S (upd (sp_X1_readNumber S (upd p' 1 (p' 1 + 1))).2 4 (sp_X1_readNumber S (upd p' 1 (p' 1 + 1))).1) (rnum 8 N (zu Y' 0 5 (Y' 0 5 + 1))) := (n2.z (Or.inr (Or.inr rfl))).qu (by omega)
            have v8 : rnum 8 N (zu Y' 0 5 (Y' 0 5 + 1)) 0 8 = (sp_X6_number N (zu Y' 0 5 (Y' 0 5 + 1))).1 := by unfold rnum; exact zqs
            have x6 : rnum 8 N (zu Y' 0 5 (Y' 0 5 + 1)) 0 6 = Y' 0 6 := (rnum_q ok62 (Or.inr (by decide)) (Or.inr (by decide))).trans (zq (Or.inr (by decide)))
            have x7 : rnum 8 N (zu Y' 0 5 (Y' 0 5 + 1)) 0 7 = Y' 0 7 := (rnum_q ok62 (Or.inr (by decide)) (Or.inr (by decide))).trans (zq (Or.inr (by decide)))
            have u0 : (upd (sp_X1_readNumber S (upd p' 1 (p' 1 + 1))).2 4 (sp_X1_readNumber S (upd p' 1 (p' 1 + 1))).1) 0 = q 0 := by rw [pk_un (by omega), n3 0 (by omega), pk_un (by omega)]; exact p0
            have u2 : (upd (sp_X1_readNumber S (upd p' 1 (p' 1 + 1))).2 4 (sp_X1_readNumber S (upd p' 1 (p' 1 + 1))).1) 2 = c4 := by rw [pk_un (by omega), n3 2 (by omega), pk_un (by omega)]; exact p2
            have u3 : (upd (sp_X1_readNumber S (upd p' 1 (p' 1 + 1))).2 4 (sp_X1_readNumber S (upd p' 1 (p' 1 + 1))).1) 3 = Y' 0 7 := by rw [pk_un (by omega), n3 3 (by omega), pk_un (by omega)]; exact v7'
            have u4 : (upd (sp_X1_readNumber S (upd p' 1 (p' 1 + 1))).2 4 (sp_X1_readNumber S (upd p' 1 (p' 1 + 1))).1) 4 = (sp_X1_readNumber S (upd p' 1 (p' 1 + 1))).1 := pk_us
            by_cases cn : (sp_X6_number N (zu Y' 0 5 (Y' 0 5 + 1))).1 = -1
            · have y1 : (upd (sp_X1_readNumber S (upd p' 1 (p' 1 + 1))).2 4 (sp_X1_readNumber S (upd p' 1 (p' 1 + 1))).1) 4 < 0 := by rw [u4, n1]; exact (m1_iff n4).mpr cn
              have y2 : rnum 8 N (zu Y' 0 5 (Y' 0 5 + 1)) 0 8 = -1 := v8.trans cn
              rw [if_pos y1, if_pos y2, if_pos (rfl : (0 : Int32) = 0)]
              exact rdr_no u0
            · have y1 : ¬ (upd (sp_X1_readNumber S (upd p' 1 (p' 1 + 1))).2 4 (sp_X1_readNumber S (upd p' 1 (p' 1 + 1))).1) 4 < 0 := by rw [u4, n1]; exact fun w => cn ((m1_iff n4).mp w)
              have y2 : ¬ rnum 8 N (zu Y' 0 5 (Y' 0 5 + 1)) 0 8 = -1 := by rw [v8]; exact cn
              rw [if_neg y1, if_neg y2, if_neg (by decide : ¬ (1 : Int32) = 0)]
              have u4' : (upd (sp_X1_readNumber S (upd p' 1 (p' 1 + 1))).2 4 (sp_X1_readNumber S (upd p' 1 (p' 1 + 1))).1) 4 = rnum 8 N (zu Y' 0 5 (Y' 0 5 + 1)) 0 8 := by rw [u4, v8, n1]
              dsimp only
              exact rdr_if (fin_r (by decide) r8 u0 (by rw [u2, x6, w6, e6, ec]) (fun _ => by rw [u3, x7]) (fun _ => u4') (by rw [x6, w6, e6]; exact Or.inr (Or.inr c3))) rs_v
          · rw [if_neg cc, rs_no (fun w => cc ((s2.eq (by decide) (by decide)).mp w))]
            dsimp only
            rw [if_pos (rfl : (0 : Int32) = 0), if_pos (rfl : (0 : Int32) = 0)]
            exact rdr_no p0
      · have c3' : ¬ (c4 = 112 ∨ c4 = 109 ∨ c4 = 120) := by rw [i112, i109, i120]; exact c3
        rw [if_neg c3, if_neg c3']
        exact rdr_no l0
end PT
