/-! a warehouse copied over another one (printed by wip/whole/gx6.py) -/
set_option maxHeartbeats 4000000 in
set_option maxRecDepth 100000 in
theorem c_X4_copyFrom_d (l : Launch) (D : va_G) (cI cC cW : ClassId) (t : Nat → Nat) (a b : Nat → Nat) (sz : Nat) (f1 f2 f3 f4 f5 f6 f7 f8 f9 f10 k1 k2 k3 k4 k5 k6 k7 k8 k9 k10 : Nat → Int32) (x0 x1 x2 x3 x4 x5 x6 y0 y1 y2 y3 y4 y5 y6 g w h v : Int32) : Met l yX4_copyFrom wsX4_copyFrom ({ frames := 2, cells := 0, slots := 0, locals := 39 }) (va_Pc [.ref (a 0), .ref (b 0)] (rwP D (tyL cI cC cW) (dg cI a f1 f2 f3 f4 f5 f6 f7 f8 f9 f10 x0 x1 x2 x3 x4 x5 x6 g w ++ dg cI b k1 k2 k3 k4 k5 k6 k7 k8 k9 k10 y0 y1 y2 y3 y4 y5 y6 h v) t sz)) (va_Qv (fun _ : Unit => True) (fun _ => rwB D (va_A (dg cI a f1 f2 f3 f4 f5 f6 f7 f8 f9 f10 x0 x1 x2 x3 x4 x5 x6 g w ++ dg cI b k1 k2 k3 k4 k5 k6 k7 k8 k9 k10 y0 y1 y2 y3 y4 y5 y6 h v) sz) (dg cI a k1 k2 k3 k4 k5 k6 k7 k8 k9 k10 y0 y1 y2 y3 y4 y5 y6 h v ++ dg cI b k1 k2 k3 k4 k5 k6 k7 k8 k9 k10 y0 y1 y2 y3 y4 y5 y6 h v)) (va_A (dg cI a f1 f2 f3 f4 f5 f6 f7 f8 f9 f10 x0 x1 x2 x3 x4 x5 x6 g w ++ dg cI b k1 k2 k3 k4 k5 k6 k7 k8 k9 k10 y0 y1 y2 y3 y4 y5 y6 h v) sz)) 0 0 (va_A (dg cI a f1 f2 f3 f4 f5 f6 f7 f8 f9 f10 x0 x1 x2 x3 x4 x5 x6 g w ++ dg cI b k1 k2 k3 k4 k5 k6 k7 k8 k9 k10 y0 y1 y2 y3 y4 y5 y6 h v) sz) := by
  refine Met.ofW (cc := cX4_copyFrom) (maxL := 2) (ret := none) (by decide) rfl ?_
  intro p e s m args below meth c s₁ B hml hv
  obtain ⟨rfl, hsz, hP, hK, hD0, hX⟩ := hv
  have hx := B.exec
  have hb := B.bytes
  have hr := B.returns
  have hts := atoms_spec (ws := wsX4_copyFrom) B.pre
  have hown : s.vm.findClass RX4 = some m.cls := findClass_of_methodNamed B.named
  have hlocks := B.notSynchronized
  subst hsz
  have hD := hD0.self (sz := s.heap.size)
  generalize hAe : va_A (dg cI a f1 f2 f3 f4 f5 f6 f7 f8 f9 f10 x0 x1 x2 x3 x4 x5 x6 g w ++ dg cI b k1 k2 k3 k4 k5 k6 k7 k8 k9 k10 y0 y1 y2 y3 y4 y5 y6 h v) s.heap.size = A at hD hX ⊢
  have hA : ∀ q : Nat, s.heap.size ≤ q → A q := fun q h => by rw [← hAe]; exact Or.inr h
  have hS : va_S A s.heap s.heap [] := va_S.rf
  have hP : va_P D vwCl (dg cI a f1 f2 f3 f4 f5 f6 f7 f8 f9 f10 x0 x1 x2 x3 x4 x5 x6 g w ++ dg cI b k1 k2 k3 k4 k5 k6 k7 k8 k9 k10 y0 y1 y2 y3 y4 y5 y6 h v) s.heap := hP
  have wd1 : (Cond.fieldLink RX4 9 "PickSlots$Warehouse" "weights" "[I").before [.ref (a 0), .ref (b 0)].toArray s = true := hts _ (List.mem_of_getElem? (i := 1) rfl)
  have wd2 : (Cond.fieldLink RX4 15 "PickSlots$Warehouse" "capacities" "[I").before [.ref (a 0), .ref (b 0)].toArray s = true := hts _ (List.mem_of_getElem? (i := 2) rfl)
  have wd3 : (Cond.fieldLink RX4 18 "PickSlots$Warehouse" "seasonDemands" "[I").before [.ref (a 0), .ref (b 0)].toArray s = true := hts _ (List.mem_of_getElem? (i := 3) rfl)
  have wd4 : (Cond.fieldLink RX4 21 "PickSlots$Warehouse" "slotOfGood" "[I").before [.ref (a 0), .ref (b 0)].toArray s = true := hts _ (List.mem_of_getElem? (i := 4) rfl)
  have wd5 : (Cond.fieldLink RX4 24 "PickSlots$Warehouse" "unitsInSlot" "[I").before [.ref (a 0), .ref (b 0)].toArray s = true := hts _ (List.mem_of_getElem? (i := 5) rfl)
  have wd6 : (Cond.fieldLink RX4 27 "PickSlots$Warehouse" "unitsInStore" "[I").before [.ref (a 0), .ref (b 0)].toArray s = true := hts _ (List.mem_of_getElem? (i := 6) rfl)
  have wd7 : (Cond.fieldLink RX4 30 "PickSlots$Warehouse" "weekPicks" "[I").before [.ref (a 0), .ref (b 0)].toArray s = true := hts _ (List.mem_of_getElem? (i := 7) rfl)
  have wd8 : (Cond.fieldLink RX4 33 "PickSlots$Warehouse" "unitsPicked" "[I").before [.ref (a 0), .ref (b 0)].toArray s = true := hts _ (List.mem_of_getElem? (i := 8) rfl)
  have wd9 : (Cond.fieldLink RX4 38 "PickSlots$Warehouse" "goodInSlot" "[I").before [.ref (a 0), .ref (b 0)].toArray s = true := hts _ (List.mem_of_getElem? (i := 9) rfl)
  have wd10 : (Cond.fieldLink RX4 41 "PickSlots$Warehouse" "settings" "[I").before [.ref (a 0), .ref (b 0)].toArray s = true := hts _ (List.mem_of_getElem? (i := 10) rfl)
  have wd11 : (Cond.fieldLink RX4 47 "PickSlots$Warehouse" "accounts" "LPickSlots$Accounts;").before [.ref (a 0), .ref (b 0)].toArray s = true := hts _ (List.mem_of_getElem? (i := 11) rfl)
  have wd12 : (Cond.fieldLink RX4 59 "PickSlots$Warehouse" "goods" "I").before [.ref (a 0), .ref (b 0)].toArray s = true := hts _ (List.mem_of_getElem? (i := 12) rfl)
  have wd13 : (Cond.fieldLink RX4 63 "PickSlots$Warehouse" "week" "I").before [.ref (a 0), .ref (b 0)].toArray s = true := hts _ (List.mem_of_getElem? (i := 13) rfl)
  have hi4 : ∀ w ∈ wsX40, w ∈ wsX4_copyFrom := fun w h => List.mem_cons_of_mem _ (List.mem_append_left _ (List.mem_append_right _ (h)))
  have hl := lv_entry ([.ref (a 0), .ref (b 0)]) (n := 2) (Nat.le_of_ble_eq_true rfl)
  rw [lg_entry_eq]
  generalize (lg_sl ([.ref (a 0), .ref (b 0)]) ++ List.replicate (2 - (lg_sl ([.ref (a 0), .ref (b 0)])).length) Slot.unset).toArray = ls at hl ⊢
  have hl : lv_has ls 2 [(0, .ref (a 0)), (1, .ref (b 0))] := hl
  refine lv_aload_n hx hb dX4_copyFrom_0 rfl (lv_at hl 1 rfl) ?_
  refine va_get (D := D) (ci := 3) (C := RX4) (T := TX4) (N := 13) hx hb hts hi4 hown hK hP 12 rfl rfl 0 (by decide) wd1 (fun _ h9 => h9) rfl dX4_copyFrom_1 ?_
  refine lv_aload_n hx hb dX4_copyFrom_4 rfl (lv_at hl 0 rfl) ?_
  refine va_get (D := D) (ci := 3) (C := RX4) (T := TX4) (N := 13) hx hb hts hi4 hown hK hP 0 rfl rfl 0 (by decide) wd1 (fun _ h9 => h9) rfl dX4_copyFrom_5 ?_
  obtain ⟨R1, p1, r1⟩ := two_out (l := dg cI a f1 f2 f3 f4 f5 f6 f7 f8 f9 f10 x0 x1 x2 x3 x4 x5 x6 g w ++ dg cI b k1 k2 k3 k4 k5 k6 k7 k8 k9 k10 y0 y1 y2 y3 y4 y5 y6 h v) (i := 1) (j := 13) (q := (a 1, .inl (cI, 20, .inl f1))) (r := (b 1, .inl (cI, 20, .inl k1))) rfl rfl (by decide)
  refine rwScs (wn := fun _ : Unit => [(a 1, .inl (cI, 20, .inl k1)), (b 1, .inl (cI, 20, .inl k1))]) (w1 := fun _ : Unit => dg cI a k1 f2 f3 f4 f5 f6 f7 f8 f9 f10 x0 x1 x2 x3 x4 x5 x6 g w ++ dg cI b k1 k2 k3 k4 k5 k6 k7 k8 k9 k10 y0 y1 y2 y3 y4 y5 y6 h v) p1 (fun _ => r1 _) ⟨hx, hb, hml, hown, hts⟩ (c_X4_copyRow l D cI cC cW t (a 1) (b 1) _ 20 f1 k1 (by decide)) (va_cwS 2 hts gX4_copyFrom_X4_copyRow rfl rfl rfl (by decide +kernel) ⟨Nat.le_of_ble_eq_true rfl, Nat.le_of_ble_eq_true rfl⟩) hP hD hK hX hS hA rfl hl.1 rfl (Nat.le_of_ble_eq_true rfl) dX4_copyFrom_8 ⟨Nat.zero_le _, Nat.zero_le _⟩ (fun _ H locs _ hP hD hS => ?_)
  refine lv_aload_n hx hb dX4_copyFrom_11 rfl (lv_at hl 1 rfl) ?_
  refine va_get (D := D) (ci := 3) (C := RX4) (T := TX4) (N := 13) hx hb hts hi4 hown hK hP 12 rfl rfl 1 (by decide) wd2 (fun _ h9 => h9) rfl dX4_copyFrom_12 ?_
  refine lv_aload_n hx hb dX4_copyFrom_15 rfl (lv_at hl 0 rfl) ?_
  refine va_get (D := D) (ci := 3) (C := RX4) (T := TX4) (N := 13) hx hb hts hi4 hown hK hP 0 rfl rfl 1 (by decide) wd2 (fun _ h9 => h9) rfl dX4_copyFrom_16 ?_
  obtain ⟨R2, p2, r2⟩ := two_out (l := dg cI a k1 f2 f3 f4 f5 f6 f7 f8 f9 f10 x0 x1 x2 x3 x4 x5 x6 g w ++ dg cI b k1 k2 k3 k4 k5 k6 k7 k8 k9 k10 y0 y1 y2 y3 y4 y5 y6 h v) (i := 2) (j := 14) (q := (a 2, .inl (cI, 20, .inl f2))) (r := (b 2, .inl (cI, 20, .inl k2))) rfl rfl (by decide)
  refine rwScs (wn := fun _ : Unit => [(a 2, .inl (cI, 20, .inl k2)), (b 2, .inl (cI, 20, .inl k2))]) (w1 := fun _ : Unit => dg cI a k1 k2 f3 f4 f5 f6 f7 f8 f9 f10 x0 x1 x2 x3 x4 x5 x6 g w ++ dg cI b k1 k2 k3 k4 k5 k6 k7 k8 k9 k10 y0 y1 y2 y3 y4 y5 y6 h v) p2 (fun _ => r2 _) ⟨hx, hb, hml, hown, hts⟩ (c_X4_copyRow l D cI cC cW t (a 2) (b 2) _ 20 f2 k2 (by decide)) (va_cwS 2 hts gX4_copyFrom_X4_copyRow rfl rfl rfl (by decide +kernel) ⟨Nat.le_of_ble_eq_true rfl, Nat.le_of_ble_eq_true rfl⟩) hP hD hK hX hS hA rfl hl.1 rfl (Nat.le_of_ble_eq_true rfl) dX4_copyFrom_19 ⟨Nat.zero_le _, Nat.zero_le _⟩ (fun _ H locs _ hP hD hS => ?_)
  refine lv_aload_n hx hb dX4_copyFrom_22 rfl (lv_at hl 1 rfl) ?_
  refine va_get (D := D) (ci := 3) (C := RX4) (T := TX4) (N := 13) hx hb hts hi4 hown hK hP 12 rfl rfl 2 (by decide) wd3 (fun _ h9 => h9) rfl dX4_copyFrom_23 ?_
  refine lv_aload_n hx hb dX4_copyFrom_26 rfl (lv_at hl 0 rfl) ?_
  refine va_get (D := D) (ci := 3) (C := RX4) (T := TX4) (N := 13) hx hb hts hi4 hown hK hP 0 rfl rfl 2 (by decide) wd3 (fun _ h9 => h9) rfl dX4_copyFrom_27 ?_
  obtain ⟨R3, p3, r3⟩ := two_out (l := dg cI a k1 k2 f3 f4 f5 f6 f7 f8 f9 f10 x0 x1 x2 x3 x4 x5 x6 g w ++ dg cI b k1 k2 k3 k4 k5 k6 k7 k8 k9 k10 y0 y1 y2 y3 y4 y5 y6 h v) (i := 3) (j := 15) (q := (a 3, .inl (cI, 80, .inl f3))) (r := (b 3, .inl (cI, 80, .inl k3))) rfl rfl (by decide)
  refine rwScs (wn := fun _ : Unit => [(a 3, .inl (cI, 80, .inl k3)), (b 3, .inl (cI, 80, .inl k3))]) (w1 := fun _ : Unit => dg cI a k1 k2 k3 f4 f5 f6 f7 f8 f9 f10 x0 x1 x2 x3 x4 x5 x6 g w ++ dg cI b k1 k2 k3 k4 k5 k6 k7 k8 k9 k10 y0 y1 y2 y3 y4 y5 y6 h v) p3 (fun _ => r3 _) ⟨hx, hb, hml, hown, hts⟩ (c_X4_copyRow l D cI cC cW t (a 3) (b 3) _ 80 f3 k3 (by decide)) (va_cwS 2 hts gX4_copyFrom_X4_copyRow rfl rfl rfl (by decide +kernel) ⟨Nat.le_of_ble_eq_true rfl, Nat.le_of_ble_eq_true rfl⟩) hP hD hK hX hS hA rfl hl.1 rfl (Nat.le_of_ble_eq_true rfl) dX4_copyFrom_30 ⟨Nat.zero_le _, Nat.zero_le _⟩ (fun _ H locs _ hP hD hS => ?_)
  refine lv_aload_n hx hb dX4_copyFrom_33 rfl (lv_at hl 1 rfl) ?_
  refine va_get (D := D) (ci := 3) (C := RX4) (T := TX4) (N := 13) hx hb hts hi4 hown hK hP 12 rfl rfl 3 (by decide) wd4 (fun _ h9 => h9) rfl dX4_copyFrom_34 ?_
  refine lv_aload_n hx hb dX4_copyFrom_37 rfl (lv_at hl 0 rfl) ?_
  refine va_get (D := D) (ci := 3) (C := RX4) (T := TX4) (N := 13) hx hb hts hi4 hown hK hP 0 rfl rfl 3 (by decide) wd4 (fun _ h9 => h9) rfl dX4_copyFrom_38 ?_
  obtain ⟨R4, p4, r4⟩ := two_out (l := dg cI a k1 k2 k3 f4 f5 f6 f7 f8 f9 f10 x0 x1 x2 x3 x4 x5 x6 g w ++ dg cI b k1 k2 k3 k4 k5 k6 k7 k8 k9 k10 y0 y1 y2 y3 y4 y5 y6 h v) (i := 4) (j := 16) (q := (a 4, .inl (cI, 20, .inl f4))) (r := (b 4, .inl (cI, 20, .inl k4))) rfl rfl (by decide)
  refine rwScs (wn := fun _ : Unit => [(a 4, .inl (cI, 20, .inl k4)), (b 4, .inl (cI, 20, .inl k4))]) (w1 := fun _ : Unit => dg cI a k1 k2 k3 k4 f5 f6 f7 f8 f9 f10 x0 x1 x2 x3 x4 x5 x6 g w ++ dg cI b k1 k2 k3 k4 k5 k6 k7 k8 k9 k10 y0 y1 y2 y3 y4 y5 y6 h v) p4 (fun _ => r4 _) ⟨hx, hb, hml, hown, hts⟩ (c_X4_copyRow l D cI cC cW t (a 4) (b 4) _ 20 f4 k4 (by decide)) (va_cwS 2 hts gX4_copyFrom_X4_copyRow rfl rfl rfl (by decide +kernel) ⟨Nat.le_of_ble_eq_true rfl, Nat.le_of_ble_eq_true rfl⟩) hP hD hK hX hS hA rfl hl.1 rfl (Nat.le_of_ble_eq_true rfl) dX4_copyFrom_41 ⟨Nat.zero_le _, Nat.zero_le _⟩ (fun _ H locs _ hP hD hS => ?_)
  refine lv_aload_n hx hb dX4_copyFrom_44 rfl (lv_at hl 1 rfl) ?_
  refine va_get (D := D) (ci := 3) (C := RX4) (T := TX4) (N := 13) hx hb hts hi4 hown hK hP 12 rfl rfl 4 (by decide) wd5 (fun _ h9 => h9) rfl dX4_copyFrom_45 ?_
  refine lv_aload_n hx hb dX4_copyFrom_48 rfl (lv_at hl 0 rfl) ?_
  refine va_get (D := D) (ci := 3) (C := RX4) (T := TX4) (N := 13) hx hb hts hi4 hown hK hP 0 rfl rfl 4 (by decide) wd5 (fun _ h9 => h9) rfl dX4_copyFrom_49 ?_
  obtain ⟨R5, p5, r5⟩ := two_out (l := dg cI a k1 k2 k3 k4 f5 f6 f7 f8 f9 f10 x0 x1 x2 x3 x4 x5 x6 g w ++ dg cI b k1 k2 k3 k4 k5 k6 k7 k8 k9 k10 y0 y1 y2 y3 y4 y5 y6 h v) (i := 5) (j := 17) (q := (a 5, .inl (cI, 20, .inl f5))) (r := (b 5, .inl (cI, 20, .inl k5))) rfl rfl (by decide)
  refine rwScs (wn := fun _ : Unit => [(a 5, .inl (cI, 20, .inl k5)), (b 5, .inl (cI, 20, .inl k5))]) (w1 := fun _ : Unit => dg cI a k1 k2 k3 k4 k5 f6 f7 f8 f9 f10 x0 x1 x2 x3 x4 x5 x6 g w ++ dg cI b k1 k2 k3 k4 k5 k6 k7 k8 k9 k10 y0 y1 y2 y3 y4 y5 y6 h v) p5 (fun _ => r5 _) ⟨hx, hb, hml, hown, hts⟩ (c_X4_copyRow l D cI cC cW t (a 5) (b 5) _ 20 f5 k5 (by decide)) (va_cwS 2 hts gX4_copyFrom_X4_copyRow rfl rfl rfl (by decide +kernel) ⟨Nat.le_of_ble_eq_true rfl, Nat.le_of_ble_eq_true rfl⟩) hP hD hK hX hS hA rfl hl.1 rfl (Nat.le_of_ble_eq_true rfl) dX4_copyFrom_52 ⟨Nat.zero_le _, Nat.zero_le _⟩ (fun _ H locs _ hP hD hS => ?_)
  refine lv_aload_n hx hb dX4_copyFrom_55 rfl (lv_at hl 1 rfl) ?_
  refine va_get (D := D) (ci := 3) (C := RX4) (T := TX4) (N := 13) hx hb hts hi4 hown hK hP 12 rfl rfl 5 (by decide) wd6 (fun _ h9 => h9) rfl dX4_copyFrom_56 ?_
  refine lv_aload_n hx hb dX4_copyFrom_59 rfl (lv_at hl 0 rfl) ?_
  refine va_get (D := D) (ci := 3) (C := RX4) (T := TX4) (N := 13) hx hb hts hi4 hown hK hP 0 rfl rfl 5 (by decide) wd6 (fun _ h9 => h9) rfl dX4_copyFrom_60 ?_
  obtain ⟨R6, p6, r6⟩ := two_out (l := dg cI a k1 k2 k3 k4 k5 f6 f7 f8 f9 f10 x0 x1 x2 x3 x4 x5 x6 g w ++ dg cI b k1 k2 k3 k4 k5 k6 k7 k8 k9 k10 y0 y1 y2 y3 y4 y5 y6 h v) (i := 6) (j := 18) (q := (a 6, .inl (cI, 20, .inl f6))) (r := (b 6, .inl (cI, 20, .inl k6))) rfl rfl (by decide)
  refine rwScs (wn := fun _ : Unit => [(a 6, .inl (cI, 20, .inl k6)), (b 6, .inl (cI, 20, .inl k6))]) (w1 := fun _ : Unit => dg cI a k1 k2 k3 k4 k5 k6 f7 f8 f9 f10 x0 x1 x2 x3 x4 x5 x6 g w ++ dg cI b k1 k2 k3 k4 k5 k6 k7 k8 k9 k10 y0 y1 y2 y3 y4 y5 y6 h v) p6 (fun _ => r6 _) ⟨hx, hb, hml, hown, hts⟩ (c_X4_copyRow l D cI cC cW t (a 6) (b 6) _ 20 f6 k6 (by decide)) (va_cwS 2 hts gX4_copyFrom_X4_copyRow rfl rfl rfl (by decide +kernel) ⟨Nat.le_of_ble_eq_true rfl, Nat.le_of_ble_eq_true rfl⟩) hP hD hK hX hS hA rfl hl.1 rfl (Nat.le_of_ble_eq_true rfl) dX4_copyFrom_63 ⟨Nat.zero_le _, Nat.zero_le _⟩ (fun _ H locs _ hP hD hS => ?_)
  refine lv_aload_n hx hb dX4_copyFrom_66 rfl (lv_at hl 1 rfl) ?_
  refine va_get (D := D) (ci := 3) (C := RX4) (T := TX4) (N := 13) hx hb hts hi4 hown hK hP 12 rfl rfl 6 (by decide) wd7 (fun _ h9 => h9) rfl dX4_copyFrom_67 ?_
  refine lv_aload_n hx hb dX4_copyFrom_70 rfl (lv_at hl 0 rfl) ?_
  refine va_get (D := D) (ci := 3) (C := RX4) (T := TX4) (N := 13) hx hb hts hi4 hown hK hP 0 rfl rfl 6 (by decide) wd7 (fun _ h9 => h9) rfl dX4_copyFrom_71 ?_
  obtain ⟨R7, p7, r7⟩ := two_out (l := dg cI a k1 k2 k3 k4 k5 k6 f7 f8 f9 f10 x0 x1 x2 x3 x4 x5 x6 g w ++ dg cI b k1 k2 k3 k4 k5 k6 k7 k8 k9 k10 y0 y1 y2 y3 y4 y5 y6 h v) (i := 7) (j := 19) (q := (a 7, .inl (cI, 20, .inl f7))) (r := (b 7, .inl (cI, 20, .inl k7))) rfl rfl (by decide)
  refine rwScs (wn := fun _ : Unit => [(a 7, .inl (cI, 20, .inl k7)), (b 7, .inl (cI, 20, .inl k7))]) (w1 := fun _ : Unit => dg cI a k1 k2 k3 k4 k5 k6 k7 f8 f9 f10 x0 x1 x2 x3 x4 x5 x6 g w ++ dg cI b k1 k2 k3 k4 k5 k6 k7 k8 k9 k10 y0 y1 y2 y3 y4 y5 y6 h v) p7 (fun _ => r7 _) ⟨hx, hb, hml, hown, hts⟩ (c_X4_copyRow l D cI cC cW t (a 7) (b 7) _ 20 f7 k7 (by decide)) (va_cwS 2 hts gX4_copyFrom_X4_copyRow rfl rfl rfl (by decide +kernel) ⟨Nat.le_of_ble_eq_true rfl, Nat.le_of_ble_eq_true rfl⟩) hP hD hK hX hS hA rfl hl.1 rfl (Nat.le_of_ble_eq_true rfl) dX4_copyFrom_74 ⟨Nat.zero_le _, Nat.zero_le _⟩ (fun _ H locs _ hP hD hS => ?_)
  refine lv_aload_n hx hb dX4_copyFrom_77 rfl (lv_at hl 1 rfl) ?_
  refine va_get (D := D) (ci := 3) (C := RX4) (T := TX4) (N := 13) hx hb hts hi4 hown hK hP 12 rfl rfl 7 (by decide) wd8 (fun _ h9 => h9) rfl dX4_copyFrom_78 ?_
  refine lv_aload_n hx hb dX4_copyFrom_81 rfl (lv_at hl 0 rfl) ?_
  refine va_get (D := D) (ci := 3) (C := RX4) (T := TX4) (N := 13) hx hb hts hi4 hown hK hP 0 rfl rfl 7 (by decide) wd8 (fun _ h9 => h9) rfl dX4_copyFrom_82 ?_
  obtain ⟨R8, p8, r8⟩ := two_out (l := dg cI a k1 k2 k3 k4 k5 k6 k7 f8 f9 f10 x0 x1 x2 x3 x4 x5 x6 g w ++ dg cI b k1 k2 k3 k4 k5 k6 k7 k8 k9 k10 y0 y1 y2 y3 y4 y5 y6 h v) (i := 8) (j := 20) (q := (a 8, .inl (cI, 20, .inl f8))) (r := (b 8, .inl (cI, 20, .inl k8))) rfl rfl (by decide)
  refine rwScs (wn := fun _ : Unit => [(a 8, .inl (cI, 20, .inl k8)), (b 8, .inl (cI, 20, .inl k8))]) (w1 := fun _ : Unit => dg cI a k1 k2 k3 k4 k5 k6 k7 k8 f9 f10 x0 x1 x2 x3 x4 x5 x6 g w ++ dg cI b k1 k2 k3 k4 k5 k6 k7 k8 k9 k10 y0 y1 y2 y3 y4 y5 y6 h v) p8 (fun _ => r8 _) ⟨hx, hb, hml, hown, hts⟩ (c_X4_copyRow l D cI cC cW t (a 8) (b 8) _ 20 f8 k8 (by decide)) (va_cwS 2 hts gX4_copyFrom_X4_copyRow rfl rfl rfl (by decide +kernel) ⟨Nat.le_of_ble_eq_true rfl, Nat.le_of_ble_eq_true rfl⟩) hP hD hK hX hS hA rfl hl.1 rfl (Nat.le_of_ble_eq_true rfl) dX4_copyFrom_85 ⟨Nat.zero_le _, Nat.zero_le _⟩ (fun _ H locs _ hP hD hS => ?_)
  refine lv_aload_n hx hb dX4_copyFrom_88 rfl (lv_at hl 1 rfl) ?_
  refine va_get (D := D) (ci := 3) (C := RX4) (T := TX4) (N := 13) hx hb hts hi4 hown hK hP 12 rfl rfl 8 (by decide) wd9 (fun _ h9 => h9) rfl dX4_copyFrom_89 ?_
  refine lv_aload_n hx hb dX4_copyFrom_92 rfl (lv_at hl 0 rfl) ?_
  refine va_get (D := D) (ci := 3) (C := RX4) (T := TX4) (N := 13) hx hb hts hi4 hown hK hP 0 rfl rfl 8 (by decide) wd9 (fun _ h9 => h9) rfl dX4_copyFrom_93 ?_
  obtain ⟨R9, p9, r9⟩ := two_out (l := dg cI a k1 k2 k3 k4 k5 k6 k7 k8 f9 f10 x0 x1 x2 x3 x4 x5 x6 g w ++ dg cI b k1 k2 k3 k4 k5 k6 k7 k8 k9 k10 y0 y1 y2 y3 y4 y5 y6 h v) (i := 9) (j := 21) (q := (a 9, .inl (cI, 60, .inl f9))) (r := (b 9, .inl (cI, 60, .inl k9))) rfl rfl (by decide)
  refine rwScs (wn := fun _ : Unit => [(a 9, .inl (cI, 60, .inl k9)), (b 9, .inl (cI, 60, .inl k9))]) (w1 := fun _ : Unit => dg cI a k1 k2 k3 k4 k5 k6 k7 k8 k9 f10 x0 x1 x2 x3 x4 x5 x6 g w ++ dg cI b k1 k2 k3 k4 k5 k6 k7 k8 k9 k10 y0 y1 y2 y3 y4 y5 y6 h v) p9 (fun _ => r9 _) ⟨hx, hb, hml, hown, hts⟩ (c_X4_copyRow l D cI cC cW t (a 9) (b 9) _ 60 f9 k9 (by decide)) (va_cwS 2 hts gX4_copyFrom_X4_copyRow rfl rfl rfl (by decide +kernel) ⟨Nat.le_of_ble_eq_true rfl, Nat.le_of_ble_eq_true rfl⟩) hP hD hK hX hS hA rfl hl.1 rfl (Nat.le_of_ble_eq_true rfl) dX4_copyFrom_96 ⟨Nat.zero_le _, Nat.zero_le _⟩ (fun _ H locs _ hP hD hS => ?_)
  refine lv_aload_n hx hb dX4_copyFrom_99 rfl (lv_at hl 1 rfl) ?_
  refine va_get (D := D) (ci := 3) (C := RX4) (T := TX4) (N := 13) hx hb hts hi4 hown hK hP 12 rfl rfl 9 (by decide) wd10 (fun _ h9 => h9) rfl dX4_copyFrom_100 ?_
  refine lv_aload_n hx hb dX4_copyFrom_103 rfl (lv_at hl 0 rfl) ?_
  refine va_get (D := D) (ci := 3) (C := RX4) (T := TX4) (N := 13) hx hb hts hi4 hown hK hP 0 rfl rfl 9 (by decide) wd10 (fun _ h9 => h9) rfl dX4_copyFrom_104 ?_
  obtain ⟨R10, p10, r10⟩ := two_out (l := dg cI a k1 k2 k3 k4 k5 k6 k7 k8 k9 f10 x0 x1 x2 x3 x4 x5 x6 g w ++ dg cI b k1 k2 k3 k4 k5 k6 k7 k8 k9 k10 y0 y1 y2 y3 y4 y5 y6 h v) (i := 10) (j := 22) (q := (a 10, .inl (cI, 3, .inl f10))) (r := (b 10, .inl (cI, 3, .inl k10))) rfl rfl (by decide)
  refine rwScs (wn := fun _ : Unit => [(a 10, .inl (cI, 3, .inl k10)), (b 10, .inl (cI, 3, .inl k10))]) (w1 := fun _ : Unit => dg cI a k1 k2 k3 k4 k5 k6 k7 k8 k9 k10 x0 x1 x2 x3 x4 x5 x6 g w ++ dg cI b k1 k2 k3 k4 k5 k6 k7 k8 k9 k10 y0 y1 y2 y3 y4 y5 y6 h v) p10 (fun _ => r10 _) ⟨hx, hb, hml, hown, hts⟩ (c_X4_copyRow l D cI cC cW t (a 10) (b 10) _ 3 f10 k10 (by decide)) (va_cwS 2 hts gX4_copyFrom_X4_copyRow rfl rfl rfl (by decide +kernel) ⟨Nat.le_of_ble_eq_true rfl, Nat.le_of_ble_eq_true rfl⟩) hP hD hK hX hS hA rfl hl.1 rfl (Nat.le_of_ble_eq_true rfl) dX4_copyFrom_107 ⟨Nat.zero_le _, Nat.zero_le _⟩ (fun _ H locs _ hP hD hS => ?_)
  refine lv_aload_n hx hb dX4_copyFrom_110 rfl (lv_at hl 0 rfl) ?_
  refine va_get (D := D) (ci := 3) (C := RX4) (T := TX4) (N := 13) hx hb hts hi4 hown hK hP 0 rfl rfl 10 (by decide) wd11 (fun _ h9 => h9) rfl dX4_copyFrom_111 ?_
  refine lv_aload_n hx hb dX4_copyFrom_114 rfl (lv_at hl 1 rfl) ?_
  refine va_get (D := D) (ci := 3) (C := RX4) (T := TX4) (N := 13) hx hb hts hi4 hown hK hP 12 rfl rfl 10 (by decide) wd11 (fun _ h9 => h9) rfl dX4_copyFrom_115 ?_
  obtain ⟨R11, p11, r11⟩ := two_out (l := dg cI a k1 k2 k3 k4 k5 k6 k7 k8 k9 k10 x0 x1 x2 x3 x4 x5 x6 g w ++ dg cI b k1 k2 k3 k4 k5 k6 k7 k8 k9 k10 y0 y1 y2 y3 y4 y5 y6 h v) (i := 11) (j := 23) (q := (a 11, .inr (0, [.int x0, .int x1, .int x2, .int x3, .int x4, .int x5, .int x6]))) (r := (b 11, .inr (0, [.int y0, .int y1, .int y2, .int y3, .int y4, .int y5, .int y6]))) rfl rfl (by decide)
  refine rwVcs (wn := fun _ : Unit => [(a 11, .inr (0, [.int y0, .int y1, .int y2, .int y3, .int y4, .int y5, .int y6])), (b 11, .inr (0, [.int y0, .int y1, .int y2, .int y3, .int y4, .int y5, .int y6]))]) (w1 := fun _ : Unit => dg cI a k1 k2 k3 k4 k5 k6 k7 k8 k9 k10 y0 y1 y2 y3 y4 y5 y6 g w ++ dg cI b k1 k2 k3 k4 k5 k6 k7 k8 k9 k10 y0 y1 y2 y3 y4 y5 y6 h v) p11 (fun _ => r11 _) ⟨hx, hb, hml, hown, hts⟩ (c_X0_copyFrom l D cI cC cW t (a 11) (b 11) _ x0 x1 x2 x3 x4 x5 x6 y0 y1 y2 y3 y4 y5 y6) (cwV 1 hts gX4_copyFrom_X0_copyFrom rfl rfl rfl (by decide +kernel) ⟨Nat.le_of_ble_eq_true rfl, Nat.le_of_ble_eq_true rfl⟩) hP hD hK hX hS hA 0 0 rfl rfl rfl hl.1 rfl (Nat.le_of_ble_eq_true rfl) dX4_copyFrom_118 ⟨Nat.zero_le _, Nat.zero_le _⟩ (fun _ H locs _ hP hD hS => ?_)
  refine lv_aload_n hx hb dX4_copyFrom_121 rfl (lv_at hl 0 rfl) ?_
  refine lv_aload_n hx hb dX4_copyFrom_122 rfl (lv_at hl 1 rfl) ?_
  refine va_get (D := D) (ci := 3) (C := RX4) (T := TX4) (N := 13) hx hb hts hi4 hown hK hP 12 rfl rfl 11 (by decide) wd12 (fun _ h9 => h9) rfl dX4_copyFrom_123 ?_
  refine my_put (wy := dg cI a k1 k2 k3 k4 k5 k6 k7 k8 k9 k10 y0 y1 y2 y3 y4 y5 y6 h w ++ dg cI b k1 k2 k3 k4 k5 k6 k7 k8 k9 k10 y0 y1 y2 y3 y4 y5 y6 h v) (D := D) (ci := 3) (v := .int h) (ty := .int) (C := RX4) (T := TX4) (N := 13) hx hb hts hi4 tyX4 tyX4_ok nmX4 hown hK hP hD hS 0 rfl rfl 11 (by decide) wd12 (fun _ h9 => h9) rfl (by decide +kernel) rfl rfl (Nat.le_of_ble_eq_true rfl) rfl dX4_copyFrom_126 (fun H locs hP hD hS => ?_)
  refine lv_aload_n hx hb dX4_copyFrom_129 rfl (lv_at hl 0 rfl) ?_
  refine lv_aload_n hx hb dX4_copyFrom_130 rfl (lv_at hl 1 rfl) ?_
  refine va_get (D := D) (ci := 3) (C := RX4) (T := TX4) (N := 13) hx hb hts hi4 hown hK hP 12 rfl rfl 12 (by decide) wd13 (fun _ h9 => h9) rfl dX4_copyFrom_131 ?_
  refine my_put (wy := dg cI a k1 k2 k3 k4 k5 k6 k7 k8 k9 k10 y0 y1 y2 y3 y4 y5 y6 h v ++ dg cI b k1 k2 k3 k4 k5 k6 k7 k8 k9 k10 y0 y1 y2 y3 y4 y5 y6 h v) (D := D) (ci := 3) (v := .int v) (ty := .int) (C := RX4) (T := TX4) (N := 13) hx hb hts hi4 tyX4 tyX4_ok nmX4 hown hK hP hD hS 0 rfl rfl 12 (by decide) wd13 (fun _ h9 => h9) rfl (by decide +kernel) rfl rfl (Nat.le_of_ble_eq_true rfl) rfl dX4_copyFrom_134 (fun H locs hP hD hS => ?_)
  exact rw_cret (wn := fun _ : Unit => dg cI a k1 k2 k3 k4 k5 k6 k7 k8 k9 k10 y0 y1 y2 y3 y4 y5 y6 h v ++ dg cI b k1 k2 k3 k4 k5 k6 k7 k8 k9 k10 y0 y1 y2 y3 y4 y5 y6 h v) () hx hb hr hP hD hS trivial dX4_copyFrom_137 hlocks

theorem c_X4_copyFrom (l : Launch) (D : va_G) (cI cC cW : ClassId) (t : Nat → Nat) (a b : Nat → Nat) (sz : Nat) (N G M F : Nat → Int32) : Met l yX4_copyFrom wsX4_copyFrom ({ frames := 2, cells := 0, slots := 0, locals := 39 }) (va_Pc [.ref (a 0), .ref (b 0)] (rwP D (tyL cI cC cW) (wg cI a N G ++ wg cI b M F) t sz)) (va_Qv (fun _ : Unit => True) (fun _ => rwB D (va_A (wg cI a N G ++ wg cI b M F) sz) (wg cI a M F ++ wg cI b M F)) (va_A (wg cI a N G ++ wg cI b M F) sz)) 0 0 (va_A (wg cI a N G ++ wg cI b M F) sz) := c_X4_copyFrom_d l D cI cC cW t a b sz _ _ _ _ _ _ _ _ _ _ _ _ _ _ _ _ _ _ _ _ _ _ _ _ _ _ _ _ _ _ _ _ _ _ _ _ _ _
