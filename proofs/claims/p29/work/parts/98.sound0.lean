/-! PURE: what sound stands on -/
section S0
variable {Y : Nat → va_H} {S q V U : Nat → Int32} {z y : Int32} {I N G : Nat → Int32} {n s : Nat} {r : Int32} {V' U' : Nat → Int32} {z' y' : Int32}
theorem cons_e {a b c e : Int32} (h : a.toInt + b.toInt + c.toInt = e.toInt) (ha : 0 ≤ a.toInt) (hb : 0 ≤ b.toInt) (hc : 0 ≤ c.toInt) (he : e.toInt ≤ 1000000) : a + b + c = e := by
  have e1 : (a + b).toInt = a.toInt + b.toInt := add_toInt (by omega) (by omega)
  exact Int32.toInt_inj.mp (by rw [add_toInt (by rw [e1]; omega) (by rw [e1]; omega), e1]; exact h)
theorem smN_n {T : (Nat → Int32) → Nat → Int32} (h : (N 0).toInt.toNat = n) : smN N T = sumI (T N) n 0 := by subst h; rfl
theorem wkS_n (h : (N 0).toInt.toNat = n) : wkS N s = sumI (wkT N s) n 0 := by subst h; rfl
theorem wk5 (hs : s < 4) : sp_X5_weekly Y S q V z U y I (nI s) = sp_X4_weeklyWalk (Y 4).2.1 (Y 4).2.2 (nI s) := by
  unfold sp_X5_weekly
  rw [if_neg (fun w => q46.mp w ⟨s, hs, rfl⟩)]
theorem atb_e (hs : s < 4) (e : sp_X5_atBest Y S q V z U y I (nI s) = (r, (V', z', U', y'))) : (sp_X4_shortestWalk (Y 4).2.1 (Y 4).2.2 V z U y (nI s)).1 = r := by
  unfold sp_X5_atBest at e
  rw [if_neg (fun w => q46.mp w ⟨s, hs, rfl⟩)] at e
  exact congrArg Prod.fst e
theorem acc_e {w a : Int32} : (100000000 : Int32) + w + a - ((100000000 : Int32) + a) = w := by grind
theorem sum_s {f : Nat → Int32} {i : Nat} {v : Int32} (h : v = f i) : sumI f i 0 + v = sumI f (i + 1) 0 := by rw [sumI_snoc, Nat.zero_add, h]
theorem sum_z {f : Nat → Int32} {i : Nat} (h : f i = 0) : sumI f i 0 = sumI f (i + 1) 0 := by rw [sumI_snoc, Nat.zero_add, h, Int32.add_zero]
end S0
