/-! copies (printed by wip/whole/gx5.py) -/
set_option maxHeartbeats 4000000 in
set_option maxRecDepth 100000 in
theorem c_X0_copyFrom (l : Launch) (D : va_G) (cI cC cW : ClassId) (t : Nat → Nat) (h0 h1 : Nat) (sz : Nat) (x0 x1 x2 x3 x4 x5 x6 y0 y1 y2 y3 y4 y5 y6 : Int32) : Met l yX0_copyFrom wsX0_copyFrom ({ frames := 0, cells := 0, slots := 0, locals := 0 }) (va_Pc [.ref h0, .ref h1] (rwP D (tyL cI cC cW) [(h0, .inr (0, [.int x0, .int x1, .int x2, .int x3, .int x4, .int x5, .int x6])), (h1, .inr (0, [.int y0, .int y1, .int y2, .int y3, .int y4, .int y5, .int y6]))] t sz)) (va_Qv (fun _ : Unit => True) (fun _ => rwB D (va_A [(h0, .inr (0, [.int x0, .int x1, .int x2, .int x3, .int x4, .int x5, .int x6])), (h1, .inr (0, [.int y0, .int y1, .int y2, .int y3, .int y4, .int y5, .int y6]))] sz) [(h0, .inr (0, [.int y0, .int y1, .int y2, .int y3, .int y4, .int y5, .int y6])), (h1, .inr (0, [.int y0, .int y1, .int y2, .int y3, .int y4, .int y5, .int y6]))]) (va_A [(h0, .inr (0, [.int x0, .int x1, .int x2, .int x3, .int x4, .int x5, .int x6])), (h1, .inr (0, [.int y0, .int y1, .int y2, .int y3, .int y4, .int y5, .int y6]))] sz)) 0 0 (va_A [(h0, .inr (0, [.int x0, .int x1, .int x2, .int x3, .int x4, .int x5, .int x6])), (h1, .inr (0, [.int y0, .int y1, .int y2, .int y3, .int y4, .int y5, .int y6]))] sz) := by
  refine Met.ofW (cc := cX0_copyFrom) (maxL := 2) (ret := none) (by decide) rfl ?_
  intro p e s m args below meth c s₁ B hml hv
  obtain ⟨rfl, hsz, hP, hK, hD0, hX⟩ := hv
  have hx := B.exec
  have hb := B.bytes
  have hr := B.returns
  have hts := atoms_spec (ws := wsX0_copyFrom) B.pre
  have hown : s.vm.findClass RX0 = some m.cls := findClass_of_methodNamed B.named
  have hlocks := B.notSynchronized
  subst hsz
  have hD := hD0.self (sz := s.heap.size)
  generalize hAe : va_A [(h0, .inr (0, [.int x0, .int x1, .int x2, .int x3, .int x4, .int x5, .int x6])), (h1, .inr (0, [.int y0, .int y1, .int y2, .int y3, .int y4, .int y5, .int y6]))] s.heap.size = A at hD hX ⊢
  have hA : ∀ q : Nat, s.heap.size ≤ q → A q := fun q h => by rw [← hAe]; exact Or.inr h
  have hS : va_S A s.heap s.heap [] := va_S.rf
  have hP : va_P D vwCl [(h0, .inr (0, [.int x0, .int x1, .int x2, .int x3, .int x4, .int x5, .int x6])), (h1, .inr (0, [.int y0, .int y1, .int y2, .int y3, .int y4, .int y5, .int y6]))] s.heap := hP
  have wd1 : (Cond.fieldLink RX0 7 "PickSlots$Accounts" "pickWalk" "I").before [.ref h0, .ref h1].toArray s = true := hts _ (List.mem_of_getElem? (i := 1) rfl)
  have wd2 : (Cond.fieldLink RX0 13 "PickSlots$Accounts" "refillWalk" "I").before [.ref h0, .ref h1].toArray s = true := hts _ (List.mem_of_getElem? (i := 2) rfl)
  have wd3 : (Cond.fieldLink RX0 16 "PickSlots$Accounts" "moveWalk" "I").before [.ref h0, .ref h1].toArray s = true := hts _ (List.mem_of_getElem? (i := 3) rfl)
  have wd4 : (Cond.fieldLink RX0 19 "PickSlots$Accounts" "trips" "I").before [.ref h0, .ref h1].toArray s = true := hts _ (List.mem_of_getElem? (i := 4) rfl)
  have wd5 : (Cond.fieldLink RX0 22 "PickSlots$Accounts" "saved" "I").before [.ref h0, .ref h1].toArray s = true := hts _ (List.mem_of_getElem? (i := 5) rfl)
  have wd6 : (Cond.fieldLink RX0 25 "PickSlots$Accounts" "moves" "I").before [.ref h0, .ref h1].toArray s = true := hts _ (List.mem_of_getElem? (i := 6) rfl)
  have wd7 : (Cond.fieldLink RX0 28 "PickSlots$Accounts" "picks" "I").before [.ref h0, .ref h1].toArray s = true := hts _ (List.mem_of_getElem? (i := 7) rfl)
  have hi0 : ∀ w ∈ wsX00, w ∈ wsX0_copyFrom := fun w h => List.mem_cons_of_mem _ (List.mem_append_right _ (h))
  have hl := lv_entry ([.ref h0, .ref h1]) (n := 2) (Nat.le_of_ble_eq_true rfl)
  rw [lg_entry_eq]
  generalize (lg_sl ([.ref h0, .ref h1]) ++ List.replicate (2 - (lg_sl ([.ref h0, .ref h1])).length) Slot.unset).toArray = ls at hl ⊢
  have hl : lv_has ls 2 [(0, .ref h0), (1, .ref h1)] := hl
  refine lv_aload_n hx hb dX0_copyFrom_0 rfl (lv_at hl 0 rfl) ?_
  refine lv_aload_n hx hb dX0_copyFrom_1 rfl (lv_at hl 1 rfl) ?_
  refine va_get (D := D) (ci := 0) (v := .int y0) (C := RX0) (T := TX0) (N := 7) hx hb hts hi0 hown hK hP 1 rfl rfl 0 (by decide) wd1 (fun _ h9 => h9) rfl dX0_copyFrom_2 ?_
  refine va_put (D := D) (ci := 0) (v := .int y0) (ty := .int) (C := RX0) (T := TX0) (N := 7) hx hb hts hi0 tyX0 tyX0_ok nmX0 hown hK hP hD hS 0 rfl rfl 0 (by decide) wd1 (fun _ h9 => h9) rfl (by decide +kernel) rfl rfl (Nat.le_of_ble_eq_true rfl) dX0_copyFrom_5 (fun H locs hP hD hS => ?_)
  have hP : va_P D vwCl [(h0, .inr (0, [.int y0, .int x1, .int x2, .int x3, .int x4, .int x5, .int x6])), (h1, .inr (0, [.int y0, .int y1, .int y2, .int y3, .int y4, .int y5, .int y6]))] H := hP
  have hD : va_D A [(h0, .inr (0, [.int y0, .int x1, .int x2, .int x3, .int x4, .int x5, .int x6])), (h1, .inr (0, [.int y0, .int y1, .int y2, .int y3, .int y4, .int y5, .int y6]))] := hD
  refine lv_aload_n hx hb dX0_copyFrom_8 rfl (lv_at hl 0 rfl) ?_
  refine lv_aload_n hx hb dX0_copyFrom_9 rfl (lv_at hl 1 rfl) ?_
  refine va_get (D := D) (ci := 0) (v := .int y1) (C := RX0) (T := TX0) (N := 7) hx hb hts hi0 hown hK hP 1 rfl rfl 1 (by decide) wd2 (fun _ h9 => h9) rfl dX0_copyFrom_10 ?_
  refine va_put (D := D) (ci := 0) (v := .int y1) (ty := .int) (C := RX0) (T := TX0) (N := 7) hx hb hts hi0 tyX0 tyX0_ok nmX0 hown hK hP hD hS 0 rfl rfl 1 (by decide) wd2 (fun _ h9 => h9) rfl (by decide +kernel) rfl rfl (Nat.le_of_ble_eq_true rfl) dX0_copyFrom_13 (fun H locs hP hD hS => ?_)
  have hP : va_P D vwCl [(h0, .inr (0, [.int y0, .int y1, .int x2, .int x3, .int x4, .int x5, .int x6])), (h1, .inr (0, [.int y0, .int y1, .int y2, .int y3, .int y4, .int y5, .int y6]))] H := hP
  have hD : va_D A [(h0, .inr (0, [.int y0, .int y1, .int x2, .int x3, .int x4, .int x5, .int x6])), (h1, .inr (0, [.int y0, .int y1, .int y2, .int y3, .int y4, .int y5, .int y6]))] := hD
  refine lv_aload_n hx hb dX0_copyFrom_16 rfl (lv_at hl 0 rfl) ?_
  refine lv_aload_n hx hb dX0_copyFrom_17 rfl (lv_at hl 1 rfl) ?_
  refine va_get (D := D) (ci := 0) (v := .int y2) (C := RX0) (T := TX0) (N := 7) hx hb hts hi0 hown hK hP 1 rfl rfl 2 (by decide) wd3 (fun _ h9 => h9) rfl dX0_copyFrom_18 ?_
  refine va_put (D := D) (ci := 0) (v := .int y2) (ty := .int) (C := RX0) (T := TX0) (N := 7) hx hb hts hi0 tyX0 tyX0_ok nmX0 hown hK hP hD hS 0 rfl rfl 2 (by decide) wd3 (fun _ h9 => h9) rfl (by decide +kernel) rfl rfl (Nat.le_of_ble_eq_true rfl) dX0_copyFrom_21 (fun H locs hP hD hS => ?_)
  have hP : va_P D vwCl [(h0, .inr (0, [.int y0, .int y1, .int y2, .int x3, .int x4, .int x5, .int x6])), (h1, .inr (0, [.int y0, .int y1, .int y2, .int y3, .int y4, .int y5, .int y6]))] H := hP
  have hD : va_D A [(h0, .inr (0, [.int y0, .int y1, .int y2, .int x3, .int x4, .int x5, .int x6])), (h1, .inr (0, [.int y0, .int y1, .int y2, .int y3, .int y4, .int y5, .int y6]))] := hD
  refine lv_aload_n hx hb dX0_copyFrom_24 rfl (lv_at hl 0 rfl) ?_
  refine lv_aload_n hx hb dX0_copyFrom_25 rfl (lv_at hl 1 rfl) ?_
  refine va_get (D := D) (ci := 0) (v := .int y3) (C := RX0) (T := TX0) (N := 7) hx hb hts hi0 hown hK hP 1 rfl rfl 3 (by decide) wd4 (fun _ h9 => h9) rfl dX0_copyFrom_26 ?_
  refine va_put (D := D) (ci := 0) (v := .int y3) (ty := .int) (C := RX0) (T := TX0) (N := 7) hx hb hts hi0 tyX0 tyX0_ok nmX0 hown hK hP hD hS 0 rfl rfl 3 (by decide) wd4 (fun _ h9 => h9) rfl (by decide +kernel) rfl rfl (Nat.le_of_ble_eq_true rfl) dX0_copyFrom_29 (fun H locs hP hD hS => ?_)
  have hP : va_P D vwCl [(h0, .inr (0, [.int y0, .int y1, .int y2, .int y3, .int x4, .int x5, .int x6])), (h1, .inr (0, [.int y0, .int y1, .int y2, .int y3, .int y4, .int y5, .int y6]))] H := hP
  have hD : va_D A [(h0, .inr (0, [.int y0, .int y1, .int y2, .int y3, .int x4, .int x5, .int x6])), (h1, .inr (0, [.int y0, .int y1, .int y2, .int y3, .int y4, .int y5, .int y6]))] := hD
  refine lv_aload_n hx hb dX0_copyFrom_32 rfl (lv_at hl 0 rfl) ?_
  refine lv_aload_n hx hb dX0_copyFrom_33 rfl (lv_at hl 1 rfl) ?_
  refine va_get (D := D) (ci := 0) (v := .int y4) (C := RX0) (T := TX0) (N := 7) hx hb hts hi0 hown hK hP 1 rfl rfl 4 (by decide) wd5 (fun _ h9 => h9) rfl dX0_copyFrom_34 ?_
  refine va_put (D := D) (ci := 0) (v := .int y4) (ty := .int) (C := RX0) (T := TX0) (N := 7) hx hb hts hi0 tyX0 tyX0_ok nmX0 hown hK hP hD hS 0 rfl rfl 4 (by decide) wd5 (fun _ h9 => h9) rfl (by decide +kernel) rfl rfl (Nat.le_of_ble_eq_true rfl) dX0_copyFrom_37 (fun H locs hP hD hS => ?_)
  have hP : va_P D vwCl [(h0, .inr (0, [.int y0, .int y1, .int y2, .int y3, .int y4, .int x5, .int x6])), (h1, .inr (0, [.int y0, .int y1, .int y2, .int y3, .int y4, .int y5, .int y6]))] H := hP
  have hD : va_D A [(h0, .inr (0, [.int y0, .int y1, .int y2, .int y3, .int y4, .int x5, .int x6])), (h1, .inr (0, [.int y0, .int y1, .int y2, .int y3, .int y4, .int y5, .int y6]))] := hD
  refine lv_aload_n hx hb dX0_copyFrom_40 rfl (lv_at hl 0 rfl) ?_
  refine lv_aload_n hx hb dX0_copyFrom_41 rfl (lv_at hl 1 rfl) ?_
  refine va_get (D := D) (ci := 0) (v := .int y5) (C := RX0) (T := TX0) (N := 7) hx hb hts hi0 hown hK hP 1 rfl rfl 5 (by decide) wd6 (fun _ h9 => h9) rfl dX0_copyFrom_42 ?_
  refine va_put (D := D) (ci := 0) (v := .int y5) (ty := .int) (C := RX0) (T := TX0) (N := 7) hx hb hts hi0 tyX0 tyX0_ok nmX0 hown hK hP hD hS 0 rfl rfl 5 (by decide) wd6 (fun _ h9 => h9) rfl (by decide +kernel) rfl rfl (Nat.le_of_ble_eq_true rfl) dX0_copyFrom_45 (fun H locs hP hD hS => ?_)
  have hP : va_P D vwCl [(h0, .inr (0, [.int y0, .int y1, .int y2, .int y3, .int y4, .int y5, .int x6])), (h1, .inr (0, [.int y0, .int y1, .int y2, .int y3, .int y4, .int y5, .int y6]))] H := hP
  have hD : va_D A [(h0, .inr (0, [.int y0, .int y1, .int y2, .int y3, .int y4, .int y5, .int x6])), (h1, .inr (0, [.int y0, .int y1, .int y2, .int y3, .int y4, .int y5, .int y6]))] := hD
  refine lv_aload_n hx hb dX0_copyFrom_48 rfl (lv_at hl 0 rfl) ?_
  refine lv_aload_n hx hb dX0_copyFrom_49 rfl (lv_at hl 1 rfl) ?_
  refine va_get (D := D) (ci := 0) (v := .int y6) (C := RX0) (T := TX0) (N := 7) hx hb hts hi0 hown hK hP 1 rfl rfl 6 (by decide) wd7 (fun _ h9 => h9) rfl dX0_copyFrom_50 ?_
  refine va_put (D := D) (ci := 0) (v := .int y6) (ty := .int) (C := RX0) (T := TX0) (N := 7) hx hb hts hi0 tyX0 tyX0_ok nmX0 hown hK hP hD hS 0 rfl rfl 6 (by decide) wd7 (fun _ h9 => h9) rfl (by decide +kernel) rfl rfl (Nat.le_of_ble_eq_true rfl) dX0_copyFrom_53 (fun H locs hP hD hS => ?_)
  have hP : va_P D vwCl [(h0, .inr (0, [.int y0, .int y1, .int y2, .int y3, .int y4, .int y5, .int y6])), (h1, .inr (0, [.int y0, .int y1, .int y2, .int y3, .int y4, .int y5, .int y6]))] H := hP
  have hD : va_D A [(h0, .inr (0, [.int y0, .int y1, .int y2, .int y3, .int y4, .int y5, .int y6])), (h1, .inr (0, [.int y0, .int y1, .int y2, .int y3, .int y4, .int y5, .int y6]))] := hD
  exact rw_cret (wn := fun _ : Unit => [(h0, .inr (0, [.int y0, .int y1, .int y2, .int y3, .int y4, .int y5, .int y6])), (h1, .inr (0, [.int y0, .int y1, .int y2, .int y3, .int y4, .int y5, .int y6]))]) () hx hb hr hP hD hS trivial dX0_copyFrom_56 hlocks

set_option maxHeartbeats 4000000 in
set_option maxRecDepth 100000 in
theorem c_X4_copyRow (l : Launch) (D : va_G) (cI cC cW : ClassId) (t : Nat → Nat) (h0 h1 : Nat) (sz : Nat) (n : Nat) (g f : Nat → Int32) (hn : n < 1000) : Met l yX4_copyRow wsX4_copyRow ({ frames := 1, cells := 0, slots := 0, locals := 18 }) (va_Pc [.ref h1, .ref h0] (rwP D (tyL cI cC cW) [(h0, .inl (cI, n, .inl g)), (h1, .inl (cI, n, .inl f))] t sz)) (va_Qv (fun _ : Unit => True) (fun _ => rwB D (va_A [(h0, .inl (cI, n, .inl g)), (h1, .inl (cI, n, .inl f))] sz) [(h0, .inl (cI, n, .inl f)), (h1, .inl (cI, n, .inl f))]) (va_A [(h0, .inl (cI, n, .inl g)), (h1, .inl (cI, n, .inl f))] sz)) 0 0 (va_A [(h0, .inl (cI, n, .inl g)), (h1, .inl (cI, n, .inl f))] sz) := by
  refine Met.ofW (cc := cX4_copyRow) (maxL := 2) (ret := none) (by decide) rfl ?_
  intro p e s m args below meth c s₁ B hml hv
  obtain ⟨rfl, hsz, hP, hK, hD0, hX⟩ := hv
  have hx := B.exec
  have hb := B.bytes
  have hr := B.returns
  have hts := atoms_spec (ws := wsX4_copyRow) B.pre
  have hown : s.vm.findClass RX4 = some m.cls := findClass_of_methodNamed B.named
  have hlocks := B.notSynchronized
  subst hsz
  have hD := hD0.self (sz := s.heap.size)
  generalize hAe : va_A [(h0, .inl (cI, n, .inl g)), (h1, .inl (cI, n, .inl f))] s.heap.size = A at hD hX ⊢
  have hA : ∀ q : Nat, s.heap.size ≤ q → A q := fun q h => by rw [← hAe]; exact Or.inr h
  have hS : va_S A s.heap s.heap [] := va_S.rf
  have hP : va_P D vwCl [(h0, .inl (cI, n, .inl g)), (h1, .inl (cI, n, .inl f))] s.heap := hP
  have wd1 : (Cond.methodLink RX4 66 Lib.Math.min.name).before [.ref h1, .ref h0].toArray s = true := hts _ (List.mem_of_getElem? (i := 1) rfl)
  have wd2 : (Cond.static Lib.Math.min.name).before [.ref h1, .ref h0].toArray s = true := hts _ (List.mem_of_getElem? (i := 2) rfl)
  have wd3 : (Cond.initialized "java/lang/Math").before [.ref h1, .ref h0].toArray s = true := hts _ (List.mem_of_getElem? (i := 3) rfl)
  have wd4 : (Cond.code Lib.Math.min.name Lib.Math.min.code 2 (some .int)).before [.ref h1, .ref h0].toArray s = true := hts _ (List.mem_of_getElem? (i := 4) rfl)
  have wd5 : (Cond.methodLink RX4 72 arraycopyName).before [.ref h1, .ref h0].toArray s = true := hts _ (List.mem_of_getElem? (i := 5) rfl)
  have wd6 : (Cond.native arraycopyName).before [.ref h1, .ref h0].toArray s = true := hts _ (List.mem_of_getElem? (i := 6) rfl)
  have wd7 : (Cond.static arraycopyName).before [.ref h1, .ref h0].toArray s = true := hts _ (List.mem_of_getElem? (i := 7) rfl)
  have wd8 : (Cond.initialized "java/lang/System").before [.ref h1, .ref h0].toArray s = true := hts _ (List.mem_of_getElem? (i := 8) rfl)
  have hl := lv_entry ([.ref h1, .ref h0]) (n := 2) (Nat.le_of_ble_eq_true rfl)
  rw [lg_entry_eq]
  generalize (lg_sl ([.ref h1, .ref h0]) ++ List.replicate (2 - (lg_sl ([.ref h1, .ref h0])).length) Slot.unset).toArray = ls at hl ⊢
  have hl : lv_has ls 2 [(0, .ref h1), (1, .ref h0)] := hl
  have en : (nI n).toNatClampNeg = n := nI_clamp (by omega)
  have e0 : (0 : Int32).toNatClampNeg = 0 := rfl
  refine lv_aload_n hx hb dX4_copyRow_0 rfl (lv_at hl 0 rfl) ?_
  refine lv_iconst (v := 0) hx hb dX4_copyRow_1 (by decide) ?_
  refine lv_aload_n hx hb dX4_copyRow_2 rfl (lv_at hl 1 rfl) ?_
  refine lv_iconst (v := 0) hx hb dX4_copyRow_3 (by decide) ?_
  refine lv_aload_n hx hb dX4_copyRow_4 rfl (lv_at hl 0 rfl) ?_
  refine va_alen (v := nI n) hx hb hK hP 1 0 rfl rfl rfl dX4_copyRow_5 ?_
  refine lv_aload_n hx hb dX4_copyRow_6 rfl (lv_at hl 1 rfl) ?_
  refine va_alen (v := nI n) hx hb hK hP 0 0 rfl rfl rfl dX4_copyRow_7 ?_
  refine va_mmin hx hb (hml.trans hl.1.symm) hown wd1 wd2 wd3 wd4 (Nat.le_of_ble_eq_true rfl) (Nat.le_of_ble_eq_true rfl) (Nat.zero_le _) (Nat.zero_le _) dX4_copyRow_8 ?_
  refine lv_top_eq (y := nI n) (by split <;> rfl) ?_
  refine va_copyi hx hb (hml.trans hl.1.symm) hown wd5 wd6 wd7 wd8 hK hP hD hS 1 0 0 0 rfl rfl rfl rfl rfl (by decide) (by decide) (nI_pos (by omega)) (by rw [en, e0]; omega) (by rw [en, e0]; omega) (fun _ _ => rfl) (Nat.le_of_ble_eq_true rfl) (Nat.le_of_ble_eq_true rfl) dX4_copyRow_11 (fun H locs hP hD hS => ?_)
  rw [en, e0] at hP
  have hP : va_P D vwCl [(h0, .inl (cI, n, .inl f)), (h1, .inl (cI, n, .inl f))] H := cpy_P (c := 0) hP
  exact rw_cret (wn := fun _ : Unit => [(h0, .inl (cI, n, .inl f)), (h1, .inl (cI, n, .inl f))]) () hx hb hr hP (vD_ad hD rfl) hS trivial dX4_copyRow_14 hlocks
