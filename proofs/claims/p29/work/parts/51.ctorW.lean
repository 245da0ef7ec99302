/-! the constructor of a warehouse (printed by wip/whole/gx4.py) -/
/-- the row of a new one -/
def N00 : Nat → Int32 := (upd (upd (upd (fun _ => 0) 2 30) 3 60) 4 1)

theorem wg_00 {cI : ClassId} {h0 q7 q15 q23 q31 q39 q47 q55 q63 q71 q78 q98 : Nat} : wg cI (adl [h0, q7, q15, q23, q31, q39, q47, q55, q63, q71, q78, q98]) N00 (fun _ => 0) = [(h0, .inr (3, [.ref q7, .ref q15, .ref q23, .ref q31, .ref q39, .ref q47, .ref q55, .ref q63, .ref q71, .ref q78, .ref q98, .int 0, .int 0])), (q7, .inl (cI, 20, .inl (fun _ => 0))), (q15, .inl (cI, 20, .inl (fun _ => 0))), (q23, .inl (cI, 80, .inl (fun _ => 0))), (q31, .inl (cI, 20, .inl (fun _ => 0))), (q39, .inl (cI, 20, .inl (fun _ => 0))), (q47, .inl (cI, 20, .inl (fun _ => 0))), (q55, .inl (cI, 20, .inl (fun _ => 0))), (q63, .inl (cI, 20, .inl (fun _ => 0))), (q71, .inl (cI, 60, .inl (fun _ => 0))), (q78, .inl (cI, 3, .inl (upd (upd (upd (fun _ => 0) 0 30) 1 60) 2 1))), (q98, .inr (0, [.int 0, .int 0, .int 0, .int 0, .int 0, .int 0, .int 0]))] := by
  have z : ∀ k, (k = 2 → False) → (k = 3 → False) → (k = 4 → False) → N00 k = 0 := by
    intro k h2 h3 h4
    unfold N00 upd
    rw [if_neg (fun h => h4 h), if_neg (fun h => h3 h), if_neg (fun h => h2 h)]
  have e1 : (fun g : Nat => N00 (16 + 11 * g)) = fun _ => 0 := funext fun g => z _ (by omega) (by omega) (by omega)
  have e2 : (fun g : Nat => N00 (17 + 11 * g)) = fun _ => 0 := funext fun g => z _ (by omega) (by omega) (by omega)
  have e3 : (fun g : Nat => N00 (18 + 11 * (g / 4) + g % 4)) = fun _ => 0 := funext fun g => z _ (by omega) (by omega) (by omega)
  have e4 : (fun g : Nat => N00 (22 + 11 * g)) = fun _ => 0 := funext fun g => z _ (by omega) (by omega) (by omega)
  have e5 : (fun g : Nat => N00 (23 + 11 * g)) = fun _ => 0 := funext fun g => z _ (by omega) (by omega) (by omega)
  have e6 : (fun g : Nat => N00 (24 + 11 * g)) = fun _ => 0 := funext fun g => z _ (by omega) (by omega) (by omega)
  have e7 : (fun g : Nat => N00 (25 + 11 * g)) = fun _ => 0 := funext fun g => z _ (by omega) (by omega) (by omega)
  have e8 : (fun g : Nat => N00 (26 + 11 * g)) = fun _ => 0 := funext fun g => z _ (by omega) (by omega) (by omega)
  have e10 : (fun k : Nat => if k < 3 then N00 (2 + k) else 0) = upd (upd (upd (fun _ => 0) 0 30) 1 60) 2 1 := by
    funext k
    rcases Nat.lt_or_ge k 3 with h | h
    · rw [if_pos h]
      rcases (show k = 0 ∨ k = 1 ∨ k = 2 by omega) with rfl | rfl | rfl <;> rfl
    · rw [if_neg (by omega)]
      unfold upd
      rw [if_neg (by omega), if_neg (by omega), if_neg (by omega)]
  unfold wg
  rw [e1, e2, e3, e4, e5, e6, e7, e8, e10]
  rfl

set_option maxHeartbeats 4000000 in
set_option maxRecDepth 100000 in
theorem c_X4_init (l : Launch) (D : va_G) (cI cC cW : ClassId) (t : Nat → Nat) (h0 : Nat) (sz : Nat) : Met l yX4_init wsX4_init ({ frames := 2, cells := 11, slots := 290, locals := 32 }) (va_Pc [.ref h0] (rwP D (tyL cI cC cW) [(h0, .inr (3, [.null, .null, .null, .null, .null, .null, .null, .null, .null, .null, .null, .int 0, .int 0]))] t sz)) (va_Qv (fun u : (Nat → Nat) × (Nat → Int32) => u.1 0 = h0 ∧ ∀ k, k < 60 → u.2 k = -1) (fun u => rwB D (va_A [(h0, .inr (3, [.null, .null, .null, .null, .null, .null, .null, .null, .null, .null, .null, .int 0, .int 0]))] sz) (wg cI u.1 N00 u.2)) (va_A [(h0, .inr (3, [.null, .null, .null, .null, .null, .null, .null, .null, .null, .null, .null, .int 0, .int 0]))] sz)) 11 290 (va_A [(h0, .inr (3, [.null, .null, .null, .null, .null, .null, .null, .null, .null, .null, .null, .int 0, .int 0]))] sz) := by
  refine Met.ofW (cc := cX4_init) (maxL := 2) (ret := none) (by decide) rfl ?_
  intro p e s m args below meth c s₁ B hml hv
  obtain ⟨rfl, hsz, hP, hK, hD0, hX⟩ := hv
  have hx := B.exec
  have hb := B.bytes
  have hr := B.returns
  have hts := atoms_spec (ws := wsX4_init) B.pre
  have hown : s.vm.findClass RX4 = some m.cls := findClass_of_methodNamed B.named
  have hlocks := B.notSynchronized
  have hin : meth.name = "<init>" := (name_of_methodNamed B.named B.method).1
  subst hsz
  have hD := hD0.self (sz := s.heap.size)
  generalize hAe : va_A [(h0, .inr (3, [.null, .null, .null, .null, .null, .null, .null, .null, .null, .null, .null, .int 0, .int 0]))] s.heap.size = A at hD hX ⊢
  have hA : ∀ q : Nat, s.heap.size ≤ q → A q := fun q h => by rw [← hAe]; exact Or.inr h
  have hS : va_S A s.heap s.heap [] := va_S.rf
  have hP : va_P D vwCl [(h0, .inr (3, [.null, .null, .null, .null, .null, .null, .null, .null, .null, .null, .null, .int 0, .int 0]))] s.heap := hP
  have wd1 : (Cond.methodLink RX4 3 objectInit).before [.ref h0].toArray s = true := hts _ (List.mem_of_getElem? (i := 1) rfl)
  have wd2 : (Cond.instanceMethod objectInit).before [.ref h0].toArray s = true := hts _ (List.mem_of_getElem? (i := 2) rfl)
  have wd4 : (Cond.arrayClass .int).before [.ref h0].toArray s = true := hts _ (List.mem_of_getElem? (i := 4) rfl)
  have wd5 : (Cond.fieldLink RX4 9 "PickSlots$Warehouse" "weights" "[I").before [.ref h0].toArray s = true := hts _ (List.mem_of_getElem? (i := 5) rfl)
  have wd6 : (Cond.fieldLink RX4 15 "PickSlots$Warehouse" "capacities" "[I").before [.ref h0].toArray s = true := hts _ (List.mem_of_getElem? (i := 6) rfl)
  have wd7 : (Cond.fieldLink RX4 18 "PickSlots$Warehouse" "seasonDemands" "[I").before [.ref h0].toArray s = true := hts _ (List.mem_of_getElem? (i := 7) rfl)
  have wd8 : (Cond.fieldLink RX4 21 "PickSlots$Warehouse" "slotOfGood" "[I").before [.ref h0].toArray s = true := hts _ (List.mem_of_getElem? (i := 8) rfl)
  have wd9 : (Cond.fieldLink RX4 24 "PickSlots$Warehouse" "unitsInSlot" "[I").before [.ref h0].toArray s = true := hts _ (List.mem_of_getElem? (i := 9) rfl)
  have wd10 : (Cond.fieldLink RX4 27 "PickSlots$Warehouse" "unitsInStore" "[I").before [.ref h0].toArray s = true := hts _ (List.mem_of_getElem? (i := 10) rfl)
  have wd11 : (Cond.fieldLink RX4 30 "PickSlots$Warehouse" "weekPicks" "[I").before [.ref h0].toArray s = true := hts _ (List.mem_of_getElem? (i := 11) rfl)
  have wd12 : (Cond.fieldLink RX4 33 "PickSlots$Warehouse" "unitsPicked" "[I").before [.ref h0].toArray s = true := hts _ (List.mem_of_getElem? (i := 12) rfl)
  have wd13 : (Cond.fieldLink RX4 38 "PickSlots$Warehouse" "goodInSlot" "[I").before [.ref h0].toArray s = true := hts _ (List.mem_of_getElem? (i := 13) rfl)
  have wd14 : (Cond.fieldLink RX4 41 "PickSlots$Warehouse" "settings" "[I").before [.ref h0].toArray s = true := hts _ (List.mem_of_getElem? (i := 14) rfl)
  have wd15 : (Cond.classLink RX4 44 RX0).before [.ref h0].toArray s = true := hts _ (List.mem_of_getElem? (i := 15) rfl)
  have wd16 : (Cond.instantiable RX0 7).before [.ref h0].toArray s = true := hts _ (List.mem_of_getElem? (i := 16) rfl)
  have wd17 : (Cond.initialized RX0).before [.ref h0].toArray s = true := hts _ (List.mem_of_getElem? (i := 17) rfl)
  have wd18 : (Cond.fieldLink RX4 47 "PickSlots$Warehouse" "accounts" "LPickSlots$Accounts;").before [.ref h0].toArray s = true := hts _ (List.mem_of_getElem? (i := 18) rfl)
  have wd19 : (Cond.instanceMethod yX0_init).before [.ref h0].toArray s = true := hts _ (List.mem_of_getElem? (i := 19) rfl)
  have hi0 : ∀ w ∈ wsX00, w ∈ wsX4_init := fun w h => List.mem_cons_of_mem _ (List.mem_append_right _ (h))
  have hi4 : ∀ w ∈ wsX40, w ∈ wsX4_init := fun w h => List.mem_cons_of_mem _ (List.mem_append_left _ (List.mem_append_right _ (h)))
  have hl := lv_entry ([.ref h0]) (n := 2) (Nat.le_of_ble_eq_true rfl)
  rw [lg_entry_eq]
  generalize (lg_sl ([.ref h0]) ++ List.replicate (2 - (lg_sl ([.ref h0])).length) Slot.unset).toArray = ls at hl ⊢
  have hl : lv_has ls 2 [(0, .ref h0)] := hl
  refine lv_aload_n hx hb dX4_init_0 rfl (lv_at hl 0 rfl) ?_
  refine W.objInit hx hb hown wd1 wd2 (hts _ (List.mem_of_getElem? (i := 3) rfl)) rfl (by rw [hml]; exact hl.1) rfl dX4_init_1 (Nat.le_of_ble_eq_true rfl) (Nat.le_of_ble_eq_true rfl) ?_
  refine W.eq (g2 := F0 m 4 ls []) rfl ?_
  refine lv_aload_n hx hb dX4_init_4 rfl (lv_at hl 0 rfl) ?_
  refine lv_bipush (v := 20) hx hb dX4_init_5 (by decide) ?_
  refine my_newai hx hb wd4 hK rfl hP hD hS hA (by decide) (N' := 20) rfl (Nat.le_of_ble_eq_true rfl) (Nat.le_of_ble_eq_true rfl) (Nat.le_of_ble_eq_true rfl) (at' := .int) rfl dX4_init_7 (fun q7 H hP hD hS => ?_)
  have hP : va_P D vwCl [(h0, .inr (3, [.null, .null, .null, .null, .null, .null, .null, .null, .null, .null, .null, .int 0, .int 0])), (q7, .inl (cI, 20, .inl (fun _ => 0)))] H := hP
  have hD : va_D A [(h0, .inr (3, [.null, .null, .null, .null, .null, .null, .null, .null, .null, .null, .null, .int 0, .int 0])), (q7, .inl (cI, 20, .inl (fun _ => 0)))] := hD
  refine va_putF (D := D) (ci := 3) (v := .ref q7) (ty := .array .int) (C := RX4) (T := TX4) (N := 13) hx hb hts hi4 tyX4 tyX4_ok nmX4 hown hK hP hD hS 0 rfl rfl 0 (by decide) wd5 (fun _ h9 => h9) rfl hin rfl (by decide +kernel) rfl rfl (Nat.le_of_ble_eq_true rfl) dX4_init_9 (fun H locs hP hD hS => ?_)
  have hP : va_P D vwCl [(h0, .inr (3, [.ref q7, .null, .null, .null, .null, .null, .null, .null, .null, .null, .null, .int 0, .int 0])), (q7, .inl (cI, 20, .inl (fun _ => 0)))] H := hP
  have hD : va_D A [(h0, .inr (3, [.ref q7, .null, .null, .null, .null, .null, .null, .null, .null, .null, .null, .int 0, .int 0])), (q7, .inl (cI, 20, .inl (fun _ => 0)))] := hD
  refine lv_aload_n hx hb dX4_init_12 rfl (lv_at hl 0 rfl) ?_
  refine lv_bipush (v := 20) hx hb dX4_init_13 (by decide) ?_
  refine my_newai hx hb wd4 hK rfl hP hD hS hA (by decide) (N' := 20) rfl (Nat.le_of_ble_eq_true rfl) (Nat.le_of_ble_eq_true rfl) (Nat.le_of_ble_eq_true rfl) (at' := .int) rfl dX4_init_15 (fun q15 H hP hD hS => ?_)
  have hP : va_P D vwCl [(h0, .inr (3, [.ref q7, .null, .null, .null, .null, .null, .null, .null, .null, .null, .null, .int 0, .int 0])), (q7, .inl (cI, 20, .inl (fun _ => 0))), (q15, .inl (cI, 20, .inl (fun _ => 0)))] H := hP
  have hD : va_D A [(h0, .inr (3, [.ref q7, .null, .null, .null, .null, .null, .null, .null, .null, .null, .null, .int 0, .int 0])), (q7, .inl (cI, 20, .inl (fun _ => 0))), (q15, .inl (cI, 20, .inl (fun _ => 0)))] := hD
  refine va_putF (D := D) (ci := 3) (v := .ref q15) (ty := .array .int) (C := RX4) (T := TX4) (N := 13) hx hb hts hi4 tyX4 tyX4_ok nmX4 hown hK hP hD hS 0 rfl rfl 1 (by decide) wd6 (fun _ h9 => h9) rfl hin rfl (by decide +kernel) rfl rfl (Nat.le_of_ble_eq_true rfl) dX4_init_17 (fun H locs hP hD hS => ?_)
  have hP : va_P D vwCl [(h0, .inr (3, [.ref q7, .ref q15, .null, .null, .null, .null, .null, .null, .null, .null, .null, .int 0, .int 0])), (q7, .inl (cI, 20, .inl (fun _ => 0))), (q15, .inl (cI, 20, .inl (fun _ => 0)))] H := hP
  have hD : va_D A [(h0, .inr (3, [.ref q7, .ref q15, .null, .null, .null, .null, .null, .null, .null, .null, .null, .int 0, .int 0])), (q7, .inl (cI, 20, .inl (fun _ => 0))), (q15, .inl (cI, 20, .inl (fun _ => 0)))] := hD
  refine lv_aload_n hx hb dX4_init_20 rfl (lv_at hl 0 rfl) ?_
  refine lv_bipush (v := 80) hx hb dX4_init_21 (by decide) ?_
  refine my_newai hx hb wd4 hK rfl hP hD hS hA (by decide) (N' := 80) rfl (Nat.le_of_ble_eq_true rfl) (Nat.le_of_ble_eq_true rfl) (Nat.le_of_ble_eq_true rfl) (at' := .int) rfl dX4_init_23 (fun q23 H hP hD hS => ?_)
  have hP : va_P D vwCl [(h0, .inr (3, [.ref q7, .ref q15, .null, .null, .null, .null, .null, .null, .null, .null, .null, .int 0, .int 0])), (q7, .inl (cI, 20, .inl (fun _ => 0))), (q15, .inl (cI, 20, .inl (fun _ => 0))), (q23, .inl (cI, 80, .inl (fun _ => 0)))] H := hP
  have hD : va_D A [(h0, .inr (3, [.ref q7, .ref q15, .null, .null, .null, .null, .null, .null, .null, .null, .null, .int 0, .int 0])), (q7, .inl (cI, 20, .inl (fun _ => 0))), (q15, .inl (cI, 20, .inl (fun _ => 0))), (q23, .inl (cI, 80, .inl (fun _ => 0)))] := hD
  refine va_putF (D := D) (ci := 3) (v := .ref q23) (ty := .array .int) (C := RX4) (T := TX4) (N := 13) hx hb hts hi4 tyX4 tyX4_ok nmX4 hown hK hP hD hS 0 rfl rfl 2 (by decide) wd7 (fun _ h9 => h9) rfl hin rfl (by decide +kernel) rfl rfl (Nat.le_of_ble_eq_true rfl) dX4_init_25 (fun H locs hP hD hS => ?_)
  have hP : va_P D vwCl [(h0, .inr (3, [.ref q7, .ref q15, .ref q23, .null, .null, .null, .null, .null, .null, .null, .null, .int 0, .int 0])), (q7, .inl (cI, 20, .inl (fun _ => 0))), (q15, .inl (cI, 20, .inl (fun _ => 0))), (q23, .inl (cI, 80, .inl (fun _ => 0)))] H := hP
  have hD : va_D A [(h0, .inr (3, [.ref q7, .ref q15, .ref q23, .null, .null, .null, .null, .null, .null, .null, .null, .int 0, .int 0])), (q7, .inl (cI, 20, .inl (fun _ => 0))), (q15, .inl (cI, 20, .inl (fun _ => 0))), (q23, .inl (cI, 80, .inl (fun _ => 0)))] := hD
  refine lv_aload_n hx hb dX4_init_28 rfl (lv_at hl 0 rfl) ?_
  refine lv_bipush (v := 20) hx hb dX4_init_29 (by decide) ?_
  refine my_newai hx hb wd4 hK rfl hP hD hS hA (by decide) (N' := 20) rfl (Nat.le_of_ble_eq_true rfl) (Nat.le_of_ble_eq_true rfl) (Nat.le_of_ble_eq_true rfl) (at' := .int) rfl dX4_init_31 (fun q31 H hP hD hS => ?_)
  have hP : va_P D vwCl [(h0, .inr (3, [.ref q7, .ref q15, .ref q23, .null, .null, .null, .null, .null, .null, .null, .null, .int 0, .int 0])), (q7, .inl (cI, 20, .inl (fun _ => 0))), (q15, .inl (cI, 20, .inl (fun _ => 0))), (q23, .inl (cI, 80, .inl (fun _ => 0))), (q31, .inl (cI, 20, .inl (fun _ => 0)))] H := hP
  have hD : va_D A [(h0, .inr (3, [.ref q7, .ref q15, .ref q23, .null, .null, .null, .null, .null, .null, .null, .null, .int 0, .int 0])), (q7, .inl (cI, 20, .inl (fun _ => 0))), (q15, .inl (cI, 20, .inl (fun _ => 0))), (q23, .inl (cI, 80, .inl (fun _ => 0))), (q31, .inl (cI, 20, .inl (fun _ => 0)))] := hD
  refine va_putF (D := D) (ci := 3) (v := .ref q31) (ty := .array .int) (C := RX4) (T := TX4) (N := 13) hx hb hts hi4 tyX4 tyX4_ok nmX4 hown hK hP hD hS 0 rfl rfl 3 (by decide) wd8 (fun _ h9 => h9) rfl hin rfl (by decide +kernel) rfl rfl (Nat.le_of_ble_eq_true rfl) dX4_init_33 (fun H locs hP hD hS => ?_)
  have hP : va_P D vwCl [(h0, .inr (3, [.ref q7, .ref q15, .ref q23, .ref q31, .null, .null, .null, .null, .null, .null, .null, .int 0, .int 0])), (q7, .inl (cI, 20, .inl (fun _ => 0))), (q15, .inl (cI, 20, .inl (fun _ => 0))), (q23, .inl (cI, 80, .inl (fun _ => 0))), (q31, .inl (cI, 20, .inl (fun _ => 0)))] H := hP
  have hD : va_D A [(h0, .inr (3, [.ref q7, .ref q15, .ref q23, .ref q31, .null, .null, .null, .null, .null, .null, .null, .int 0, .int 0])), (q7, .inl (cI, 20, .inl (fun _ => 0))), (q15, .inl (cI, 20, .inl (fun _ => 0))), (q23, .inl (cI, 80, .inl (fun _ => 0))), (q31, .inl (cI, 20, .inl (fun _ => 0)))] := hD
  refine lv_aload_n hx hb dX4_init_36 rfl (lv_at hl 0 rfl) ?_
  refine lv_bipush (v := 20) hx hb dX4_init_37 (by decide) ?_
  refine my_newai hx hb wd4 hK rfl hP hD hS hA (by decide) (N' := 20) rfl (Nat.le_of_ble_eq_true rfl) (Nat.le_of_ble_eq_true rfl) (Nat.le_of_ble_eq_true rfl) (at' := .int) rfl dX4_init_39 (fun q39 H hP hD hS => ?_)
  have hP : va_P D vwCl [(h0, .inr (3, [.ref q7, .ref q15, .ref q23, .ref q31, .null, .null, .null, .null, .null, .null, .null, .int 0, .int 0])), (q7, .inl (cI, 20, .inl (fun _ => 0))), (q15, .inl (cI, 20, .inl (fun _ => 0))), (q23, .inl (cI, 80, .inl (fun _ => 0))), (q31, .inl (cI, 20, .inl (fun _ => 0))), (q39, .inl (cI, 20, .inl (fun _ => 0)))] H := hP
  have hD : va_D A [(h0, .inr (3, [.ref q7, .ref q15, .ref q23, .ref q31, .null, .null, .null, .null, .null, .null, .null, .int 0, .int 0])), (q7, .inl (cI, 20, .inl (fun _ => 0))), (q15, .inl (cI, 20, .inl (fun _ => 0))), (q23, .inl (cI, 80, .inl (fun _ => 0))), (q31, .inl (cI, 20, .inl (fun _ => 0))), (q39, .inl (cI, 20, .inl (fun _ => 0)))] := hD
  refine va_putF (D := D) (ci := 3) (v := .ref q39) (ty := .array .int) (C := RX4) (T := TX4) (N := 13) hx hb hts hi4 tyX4 tyX4_ok nmX4 hown hK hP hD hS 0 rfl rfl 4 (by decide) wd9 (fun _ h9 => h9) rfl hin rfl (by decide +kernel) rfl rfl (Nat.le_of_ble_eq_true rfl) dX4_init_41 (fun H locs hP hD hS => ?_)
  have hP : va_P D vwCl [(h0, .inr (3, [.ref q7, .ref q15, .ref q23, .ref q31, .ref q39, .null, .null, .null, .null, .null, .null, .int 0, .int 0])), (q7, .inl (cI, 20, .inl (fun _ => 0))), (q15, .inl (cI, 20, .inl (fun _ => 0))), (q23, .inl (cI, 80, .inl (fun _ => 0))), (q31, .inl (cI, 20, .inl (fun _ => 0))), (q39, .inl (cI, 20, .inl (fun _ => 0)))] H := hP
  have hD : va_D A [(h0, .inr (3, [.ref q7, .ref q15, .ref q23, .ref q31, .ref q39, .null, .null, .null, .null, .null, .null, .int 0, .int 0])), (q7, .inl (cI, 20, .inl (fun _ => 0))), (q15, .inl (cI, 20, .inl (fun _ => 0))), (q23, .inl (cI, 80, .inl (fun _ => 0))), (q31, .inl (cI, 20, .inl (fun _ => 0))), (q39, .inl (cI, 20, .inl (fun _ => 0)))] := hD
  refine lv_aload_n hx hb dX4_init_44 rfl (lv_at hl 0 rfl) ?_
  refine lv_bipush (v := 20) hx hb dX4_init_45 (by decide) ?_
  refine my_newai hx hb wd4 hK rfl hP hD hS hA (by decide) (N' := 20) rfl (Nat.le_of_ble_eq_true rfl) (Nat.le_of_ble_eq_true rfl) (Nat.le_of_ble_eq_true rfl) (at' := .int) rfl dX4_init_47 (fun q47 H hP hD hS => ?_)
  have hP : va_P D vwCl [(h0, .inr (3, [.ref q7, .ref q15, .ref q23, .ref q31, .ref q39, .null, .null, .null, .null, .null, .null, .int 0, .int 0])), (q7, .inl (cI, 20, .inl (fun _ => 0))), (q15, .inl (cI, 20, .inl (fun _ => 0))), (q23, .inl (cI, 80, .inl (fun _ => 0))), (q31, .inl (cI, 20, .inl (fun _ => 0))), (q39, .inl (cI, 20, .inl (fun _ => 0))), (q47, .inl (cI, 20, .inl (fun _ => 0)))] H := hP
  have hD : va_D A [(h0, .inr (3, [.ref q7, .ref q15, .ref q23, .ref q31, .ref q39, .null, .null, .null, .null, .null, .null, .int 0, .int 0])), (q7, .inl (cI, 20, .inl (fun _ => 0))), (q15, .inl (cI, 20, .inl (fun _ => 0))), (q23, .inl (cI, 80, .inl (fun _ => 0))), (q31, .inl (cI, 20, .inl (fun _ => 0))), (q39, .inl (cI, 20, .inl (fun _ => 0))), (q47, .inl (cI, 20, .inl (fun _ => 0)))] := hD
  refine va_putF (D := D) (ci := 3) (v := .ref q47) (ty := .array .int) (C := RX4) (T := TX4) (N := 13) hx hb hts hi4 tyX4 tyX4_ok nmX4 hown hK hP hD hS 0 rfl rfl 5 (by decide) wd10 (fun _ h9 => h9) rfl hin rfl (by decide +kernel) rfl rfl (Nat.le_of_ble_eq_true rfl) dX4_init_49 (fun H locs hP hD hS => ?_)
  have hP : va_P D vwCl [(h0, .inr (3, [.ref q7, .ref q15, .ref q23, .ref q31, .ref q39, .ref q47, .null, .null, .null, .null, .null, .int 0, .int 0])), (q7, .inl (cI, 20, .inl (fun _ => 0))), (q15, .inl (cI, 20, .inl (fun _ => 0))), (q23, .inl (cI, 80, .inl (fun _ => 0))), (q31, .inl (cI, 20, .inl (fun _ => 0))), (q39, .inl (cI, 20, .inl (fun _ => 0))), (q47, .inl (cI, 20, .inl (fun _ => 0)))] H := hP
  have hD : va_D A [(h0, .inr (3, [.ref q7, .ref q15, .ref q23, .ref q31, .ref q39, .ref q47, .null, .null, .null, .null, .null, .int 0, .int 0])), (q7, .inl (cI, 20, .inl (fun _ => 0))), (q15, .inl (cI, 20, .inl (fun _ => 0))), (q23, .inl (cI, 80, .inl (fun _ => 0))), (q31, .inl (cI, 20, .inl (fun _ => 0))), (q39, .inl (cI, 20, .inl (fun _ => 0))), (q47, .inl (cI, 20, .inl (fun _ => 0)))] := hD
  refine lv_aload_n hx hb dX4_init_52 rfl (lv_at hl 0 rfl) ?_
  refine lv_bipush (v := 20) hx hb dX4_init_53 (by decide) ?_
  refine my_newai hx hb wd4 hK rfl hP hD hS hA (by decide) (N' := 20) rfl (Nat.le_of_ble_eq_true rfl) (Nat.le_of_ble_eq_true rfl) (Nat.le_of_ble_eq_true rfl) (at' := .int) rfl dX4_init_55 (fun q55 H hP hD hS => ?_)
  have hP : va_P D vwCl [(h0, .inr (3, [.ref q7, .ref q15, .ref q23, .ref q31, .ref q39, .ref q47, .null, .null, .null, .null, .null, .int 0, .int 0])), (q7, .inl (cI, 20, .inl (fun _ => 0))), (q15, .inl (cI, 20, .inl (fun _ => 0))), (q23, .inl (cI, 80, .inl (fun _ => 0))), (q31, .inl (cI, 20, .inl (fun _ => 0))), (q39, .inl (cI, 20, .inl (fun _ => 0))), (q47, .inl (cI, 20, .inl (fun _ => 0))), (q55, .inl (cI, 20, .inl (fun _ => 0)))] H := hP
  have hD : va_D A [(h0, .inr (3, [.ref q7, .ref q15, .ref q23, .ref q31, .ref q39, .ref q47, .null, .null, .null, .null, .null, .int 0, .int 0])), (q7, .inl (cI, 20, .inl (fun _ => 0))), (q15, .inl (cI, 20, .inl (fun _ => 0))), (q23, .inl (cI, 80, .inl (fun _ => 0))), (q31, .inl (cI, 20, .inl (fun _ => 0))), (q39, .inl (cI, 20, .inl (fun _ => 0))), (q47, .inl (cI, 20, .inl (fun _ => 0))), (q55, .inl (cI, 20, .inl (fun _ => 0)))] := hD
  refine va_putF (D := D) (ci := 3) (v := .ref q55) (ty := .array .int) (C := RX4) (T := TX4) (N := 13) hx hb hts hi4 tyX4 tyX4_ok nmX4 hown hK hP hD hS 0 rfl rfl 6 (by decide) wd11 (fun _ h9 => h9) rfl hin rfl (by decide +kernel) rfl rfl (Nat.le_of_ble_eq_true rfl) dX4_init_57 (fun H locs hP hD hS => ?_)
  have hP : va_P D vwCl [(h0, .inr (3, [.ref q7, .ref q15, .ref q23, .ref q31, .ref q39, .ref q47, .ref q55, .null, .null, .null, .null, .int 0, .int 0])), (q7, .inl (cI, 20, .inl (fun _ => 0))), (q15, .inl (cI, 20, .inl (fun _ => 0))), (q23, .inl (cI, 80, .inl (fun _ => 0))), (q31, .inl (cI, 20, .inl (fun _ => 0))), (q39, .inl (cI, 20, .inl (fun _ => 0))), (q47, .inl (cI, 20, .inl (fun _ => 0))), (q55, .inl (cI, 20, .inl (fun _ => 0)))] H := hP
  have hD : va_D A [(h0, .inr (3, [.ref q7, .ref q15, .ref q23, .ref q31, .ref q39, .ref q47, .ref q55, .null, .null, .null, .null, .int 0, .int 0])), (q7, .inl (cI, 20, .inl (fun _ => 0))), (q15, .inl (cI, 20, .inl (fun _ => 0))), (q23, .inl (cI, 80, .inl (fun _ => 0))), (q31, .inl (cI, 20, .inl (fun _ => 0))), (q39, .inl (cI, 20, .inl (fun _ => 0))), (q47, .inl (cI, 20, .inl (fun _ => 0))), (q55, .inl (cI, 20, .inl (fun _ => 0)))] := hD
  refine lv_aload_n hx hb dX4_init_60 rfl (lv_at hl 0 rfl) ?_
  refine lv_bipush (v := 20) hx hb dX4_init_61 (by decide) ?_
  refine my_newai hx hb wd4 hK rfl hP hD hS hA (by decide) (N' := 20) rfl (Nat.le_of_ble_eq_true rfl) (Nat.le_of_ble_eq_true rfl) (Nat.le_of_ble_eq_true rfl) (at' := .int) rfl dX4_init_63 (fun q63 H hP hD hS => ?_)
  have hP : va_P D vwCl [(h0, .inr (3, [.ref q7, .ref q15, .ref q23, .ref q31, .ref q39, .ref q47, .ref q55, .null, .null, .null, .null, .int 0, .int 0])), (q7, .inl (cI, 20, .inl (fun _ => 0))), (q15, .inl (cI, 20, .inl (fun _ => 0))), (q23, .inl (cI, 80, .inl (fun _ => 0))), (q31, .inl (cI, 20, .inl (fun _ => 0))), (q39, .inl (cI, 20, .inl (fun _ => 0))), (q47, .inl (cI, 20, .inl (fun _ => 0))), (q55, .inl (cI, 20, .inl (fun _ => 0))), (q63, .inl (cI, 20, .inl (fun _ => 0)))] H := hP
  have hD : va_D A [(h0, .inr (3, [.ref q7, .ref q15, .ref q23, .ref q31, .ref q39, .ref q47, .ref q55, .null, .null, .null, .null, .int 0, .int 0])), (q7, .inl (cI, 20, .inl (fun _ => 0))), (q15, .inl (cI, 20, .inl (fun _ => 0))), (q23, .inl (cI, 80, .inl (fun _ => 0))), (q31, .inl (cI, 20, .inl (fun _ => 0))), (q39, .inl (cI, 20, .inl (fun _ => 0))), (q47, .inl (cI, 20, .inl (fun _ => 0))), (q55, .inl (cI, 20, .inl (fun _ => 0))), (q63, .inl (cI, 20, .inl (fun _ => 0)))] := hD
  refine va_putF (D := D) (ci := 3) (v := .ref q63) (ty := .array .int) (C := RX4) (T := TX4) (N := 13) hx hb hts hi4 tyX4 tyX4_ok nmX4 hown hK hP hD hS 0 rfl rfl 7 (by decide) wd12 (fun _ h9 => h9) rfl hin rfl (by decide +kernel) rfl rfl (Nat.le_of_ble_eq_true rfl) dX4_init_65 (fun H locs hP hD hS => ?_)
  have hP : va_P D vwCl [(h0, .inr (3, [.ref q7, .ref q15, .ref q23, .ref q31, .ref q39, .ref q47, .ref q55, .ref q63, .null, .null, .null, .int 0, .int 0])), (q7, .inl (cI, 20, .inl (fun _ => 0))), (q15, .inl (cI, 20, .inl (fun _ => 0))), (q23, .inl (cI, 80, .inl (fun _ => 0))), (q31, .inl (cI, 20, .inl (fun _ => 0))), (q39, .inl (cI, 20, .inl (fun _ => 0))), (q47, .inl (cI, 20, .inl (fun _ => 0))), (q55, .inl (cI, 20, .inl (fun _ => 0))), (q63, .inl (cI, 20, .inl (fun _ => 0)))] H := hP
  have hD : va_D A [(h0, .inr (3, [.ref q7, .ref q15, .ref q23, .ref q31, .ref q39, .ref q47, .ref q55, .ref q63, .null, .null, .null, .int 0, .int 0])), (q7, .inl (cI, 20, .inl (fun _ => 0))), (q15, .inl (cI, 20, .inl (fun _ => 0))), (q23, .inl (cI, 80, .inl (fun _ => 0))), (q31, .inl (cI, 20, .inl (fun _ => 0))), (q39, .inl (cI, 20, .inl (fun _ => 0))), (q47, .inl (cI, 20, .inl (fun _ => 0))), (q55, .inl (cI, 20, .inl (fun _ => 0))), (q63, .inl (cI, 20, .inl (fun _ => 0)))] := hD
  refine lv_aload_n hx hb dX4_init_68 rfl (lv_at hl 0 rfl) ?_
  refine lv_bipush (v := 60) hx hb dX4_init_69 (by decide) ?_
  refine my_newai hx hb wd4 hK rfl hP hD hS hA (by decide) (N' := 60) rfl (Nat.le_of_ble_eq_true rfl) (Nat.le_of_ble_eq_true rfl) (Nat.le_of_ble_eq_true rfl) (at' := .int) rfl dX4_init_71 (fun q71 H hP hD hS => ?_)
  have hP : va_P D vwCl [(h0, .inr (3, [.ref q7, .ref q15, .ref q23, .ref q31, .ref q39, .ref q47, .ref q55, .ref q63, .null, .null, .null, .int 0, .int 0])), (q7, .inl (cI, 20, .inl (fun _ => 0))), (q15, .inl (cI, 20, .inl (fun _ => 0))), (q23, .inl (cI, 80, .inl (fun _ => 0))), (q31, .inl (cI, 20, .inl (fun _ => 0))), (q39, .inl (cI, 20, .inl (fun _ => 0))), (q47, .inl (cI, 20, .inl (fun _ => 0))), (q55, .inl (cI, 20, .inl (fun _ => 0))), (q63, .inl (cI, 20, .inl (fun _ => 0))), (q71, .inl (cI, 60, .inl (fun _ => 0)))] H := hP
  have hD : va_D A [(h0, .inr (3, [.ref q7, .ref q15, .ref q23, .ref q31, .ref q39, .ref q47, .ref q55, .ref q63, .null, .null, .null, .int 0, .int 0])), (q7, .inl (cI, 20, .inl (fun _ => 0))), (q15, .inl (cI, 20, .inl (fun _ => 0))), (q23, .inl (cI, 80, .inl (fun _ => 0))), (q31, .inl (cI, 20, .inl (fun _ => 0))), (q39, .inl (cI, 20, .inl (fun _ => 0))), (q47, .inl (cI, 20, .inl (fun _ => 0))), (q55, .inl (cI, 20, .inl (fun _ => 0))), (q63, .inl (cI, 20, .inl (fun _ => 0))), (q71, .inl (cI, 60, .inl (fun _ => 0)))] := hD
  refine va_putF (D := D) (ci := 3) (v := .ref q71) (ty := .array .int) (C := RX4) (T := TX4) (N := 13) hx hb hts hi4 tyX4 tyX4_ok nmX4 hown hK hP hD hS 0 rfl rfl 8 (by decide) wd13 (fun _ h9 => h9) rfl hin rfl (by decide +kernel) rfl rfl (Nat.le_of_ble_eq_true rfl) dX4_init_73 (fun H locs hP hD hS => ?_)
  have hP : va_P D vwCl [(h0, .inr (3, [.ref q7, .ref q15, .ref q23, .ref q31, .ref q39, .ref q47, .ref q55, .ref q63, .ref q71, .null, .null, .int 0, .int 0])), (q7, .inl (cI, 20, .inl (fun _ => 0))), (q15, .inl (cI, 20, .inl (fun _ => 0))), (q23, .inl (cI, 80, .inl (fun _ => 0))), (q31, .inl (cI, 20, .inl (fun _ => 0))), (q39, .inl (cI, 20, .inl (fun _ => 0))), (q47, .inl (cI, 20, .inl (fun _ => 0))), (q55, .inl (cI, 20, .inl (fun _ => 0))), (q63, .inl (cI, 20, .inl (fun _ => 0))), (q71, .inl (cI, 60, .inl (fun _ => 0)))] H := hP
  have hD : va_D A [(h0, .inr (3, [.ref q7, .ref q15, .ref q23, .ref q31, .ref q39, .ref q47, .ref q55, .ref q63, .ref q71, .null, .null, .int 0, .int 0])), (q7, .inl (cI, 20, .inl (fun _ => 0))), (q15, .inl (cI, 20, .inl (fun _ => 0))), (q23, .inl (cI, 80, .inl (fun _ => 0))), (q31, .inl (cI, 20, .inl (fun _ => 0))), (q39, .inl (cI, 20, .inl (fun _ => 0))), (q47, .inl (cI, 20, .inl (fun _ => 0))), (q55, .inl (cI, 20, .inl (fun _ => 0))), (q63, .inl (cI, 20, .inl (fun _ => 0))), (q71, .inl (cI, 60, .inl (fun _ => 0)))] := hD
  refine lv_aload_n hx hb dX4_init_76 rfl (lv_at hl 0 rfl) ?_
  refine lv_iconst (v := 3) hx hb dX4_init_77 (by decide) ?_
  refine my_newai hx hb wd4 hK rfl hP hD hS hA (by decide) (N' := 3) rfl (Nat.le_of_ble_eq_true rfl) (Nat.le_of_ble_eq_true rfl) (Nat.le_of_ble_eq_true rfl) (at' := .int) rfl dX4_init_78 (fun q78 H hP hD hS => ?_)
  have hP : va_P D vwCl [(h0, .inr (3, [.ref q7, .ref q15, .ref q23, .ref q31, .ref q39, .ref q47, .ref q55, .ref q63, .ref q71, .null, .null, .int 0, .int 0])), (q7, .inl (cI, 20, .inl (fun _ => 0))), (q15, .inl (cI, 20, .inl (fun _ => 0))), (q23, .inl (cI, 80, .inl (fun _ => 0))), (q31, .inl (cI, 20, .inl (fun _ => 0))), (q39, .inl (cI, 20, .inl (fun _ => 0))), (q47, .inl (cI, 20, .inl (fun _ => 0))), (q55, .inl (cI, 20, .inl (fun _ => 0))), (q63, .inl (cI, 20, .inl (fun _ => 0))), (q71, .inl (cI, 60, .inl (fun _ => 0))), (q78, .inl (cI, 3, .inl (fun _ => 0)))] H := hP
  have hD : va_D A [(h0, .inr (3, [.ref q7, .ref q15, .ref q23, .ref q31, .ref q39, .ref q47, .ref q55, .ref q63, .ref q71, .null, .null, .int 0, .int 0])), (q7, .inl (cI, 20, .inl (fun _ => 0))), (q15, .inl (cI, 20, .inl (fun _ => 0))), (q23, .inl (cI, 80, .inl (fun _ => 0))), (q31, .inl (cI, 20, .inl (fun _ => 0))), (q39, .inl (cI, 20, .inl (fun _ => 0))), (q47, .inl (cI, 20, .inl (fun _ => 0))), (q55, .inl (cI, 20, .inl (fun _ => 0))), (q63, .inl (cI, 20, .inl (fun _ => 0))), (q71, .inl (cI, 60, .inl (fun _ => 0))), (q78, .inl (cI, 3, .inl (fun _ => 0)))] := hD
  refine lv_dup hx hb dX4_init_80 rfl ?_
  refine lv_iconst (v := 0) hx hb dX4_init_81 (by decide) ?_
  refine lv_bipush (v := 30) hx hb dX4_init_82 (by decide) ?_
  refine my_iastK (k := 0) hx hb hK hP hD hS 10 0 rfl rfl rfl (wy := [(h0, .inr (3, [.ref q7, .ref q15, .ref q23, .ref q31, .ref q39, .ref q47, .ref q55, .ref q63, .ref q71, .null, .null, .int 0, .int 0])), (q7, .inl (cI, 20, .inl (fun _ => 0))), (q15, .inl (cI, 20, .inl (fun _ => 0))), (q23, .inl (cI, 80, .inl (fun _ => 0))), (q31, .inl (cI, 20, .inl (fun _ => 0))), (q39, .inl (cI, 20, .inl (fun _ => 0))), (q47, .inl (cI, 20, .inl (fun _ => 0))), (q55, .inl (cI, 20, .inl (fun _ => 0))), (q63, .inl (cI, 20, .inl (fun _ => 0))), (q71, .inl (cI, 60, .inl (fun _ => 0))), (q78, .inl (cI, 3, .inl (upd (fun _ => 0) 0 30)))]) rfl (by unfold vp_in; decide) dX4_init_84 (fun H locs hP hD hS => ?_)
  refine lv_dup hx hb dX4_init_85 rfl ?_
  refine lv_iconst (v := 1) hx hb dX4_init_86 (by decide) ?_
  refine lv_bipush (v := 60) hx hb dX4_init_87 (by decide) ?_
  refine my_iastK (k := 1) hx hb hK hP hD hS 10 0 rfl rfl rfl (wy := [(h0, .inr (3, [.ref q7, .ref q15, .ref q23, .ref q31, .ref q39, .ref q47, .ref q55, .ref q63, .ref q71, .null, .null, .int 0, .int 0])), (q7, .inl (cI, 20, .inl (fun _ => 0))), (q15, .inl (cI, 20, .inl (fun _ => 0))), (q23, .inl (cI, 80, .inl (fun _ => 0))), (q31, .inl (cI, 20, .inl (fun _ => 0))), (q39, .inl (cI, 20, .inl (fun _ => 0))), (q47, .inl (cI, 20, .inl (fun _ => 0))), (q55, .inl (cI, 20, .inl (fun _ => 0))), (q63, .inl (cI, 20, .inl (fun _ => 0))), (q71, .inl (cI, 60, .inl (fun _ => 0))), (q78, .inl (cI, 3, .inl (upd (upd (fun _ => 0) 0 30) 1 60)))]) rfl (by unfold vp_in; decide) dX4_init_89 (fun H locs hP hD hS => ?_)
  refine lv_dup hx hb dX4_init_90 rfl ?_
  refine lv_iconst (v := 2) hx hb dX4_init_91 (by decide) ?_
  refine lv_iconst (v := 1) hx hb dX4_init_92 (by decide) ?_
  refine my_iastK (k := 2) hx hb hK hP hD hS 10 0 rfl rfl rfl (wy := [(h0, .inr (3, [.ref q7, .ref q15, .ref q23, .ref q31, .ref q39, .ref q47, .ref q55, .ref q63, .ref q71, .null, .null, .int 0, .int 0])), (q7, .inl (cI, 20, .inl (fun _ => 0))), (q15, .inl (cI, 20, .inl (fun _ => 0))), (q23, .inl (cI, 80, .inl (fun _ => 0))), (q31, .inl (cI, 20, .inl (fun _ => 0))), (q39, .inl (cI, 20, .inl (fun _ => 0))), (q47, .inl (cI, 20, .inl (fun _ => 0))), (q55, .inl (cI, 20, .inl (fun _ => 0))), (q63, .inl (cI, 20, .inl (fun _ => 0))), (q71, .inl (cI, 60, .inl (fun _ => 0))), (q78, .inl (cI, 3, .inl (upd (upd (upd (fun _ => 0) 0 30) 1 60) 2 1)))]) rfl (by unfold vp_in; decide) dX4_init_93 (fun H locs hP hD hS => ?_)
  refine va_putF (D := D) (ci := 3) (v := .ref q78) (ty := .array .int) (C := RX4) (T := TX4) (N := 13) hx hb hts hi4 tyX4 tyX4_ok nmX4 hown hK hP hD hS 0 rfl rfl 9 (by decide) wd14 (fun _ h9 => h9) rfl hin rfl (by decide +kernel) rfl rfl (Nat.le_of_ble_eq_true rfl) dX4_init_94 (fun H locs hP hD hS => ?_)
  have hP : va_P D vwCl [(h0, .inr (3, [.ref q7, .ref q15, .ref q23, .ref q31, .ref q39, .ref q47, .ref q55, .ref q63, .ref q71, .ref q78, .null, .int 0, .int 0])), (q7, .inl (cI, 20, .inl (fun _ => 0))), (q15, .inl (cI, 20, .inl (fun _ => 0))), (q23, .inl (cI, 80, .inl (fun _ => 0))), (q31, .inl (cI, 20, .inl (fun _ => 0))), (q39, .inl (cI, 20, .inl (fun _ => 0))), (q47, .inl (cI, 20, .inl (fun _ => 0))), (q55, .inl (cI, 20, .inl (fun _ => 0))), (q63, .inl (cI, 20, .inl (fun _ => 0))), (q71, .inl (cI, 60, .inl (fun _ => 0))), (q78, .inl (cI, 3, .inl (upd (upd (upd (fun _ => 0) 0 30) 1 60) 2 1)))] H := hP
  have hD : va_D A [(h0, .inr (3, [.ref q7, .ref q15, .ref q23, .ref q31, .ref q39, .ref q47, .ref q55, .ref q63, .ref q71, .ref q78, .null, .int 0, .int 0])), (q7, .inl (cI, 20, .inl (fun _ => 0))), (q15, .inl (cI, 20, .inl (fun _ => 0))), (q23, .inl (cI, 80, .inl (fun _ => 0))), (q31, .inl (cI, 20, .inl (fun _ => 0))), (q39, .inl (cI, 20, .inl (fun _ => 0))), (q47, .inl (cI, 20, .inl (fun _ => 0))), (q55, .inl (cI, 20, .inl (fun _ => 0))), (q63, .inl (cI, 20, .inl (fun _ => 0))), (q71, .inl (cI, 60, .inl (fun _ => 0))), (q78, .inl (cI, 3, .inl (upd (upd (upd (fun _ => 0) 0 30) 1 60) 2 1)))] := hD
  refine lv_aload_n hx hb dX4_init_97 rfl (lv_at hl 0 rfl) ?_
  refine va_new (ci := 0) (fs := [.int 0, .int 0, .int 0, .int 0, .int 0, .int 0, .int 0]) (C := RX0) (T := TX0) (N := 7) hx hb hts hi0 tyX0 tyX0_ok hown wd15 wd16 wd17 hK hP hD hS hA rfl (fun j hj => by rcases (show j = 0 ∨ j = 1 ∨ j = 2 ∨ j = 3 ∨ j = 4 ∨ j = 5 ∨ j = 6 by omega) with rfl | rfl | rfl | rfl | rfl | rfl | rfl <;> rfl) (Nat.le_of_ble_eq_true rfl) (Nat.le_of_ble_eq_true rfl) dX4_init_98 (fun q98 H hP hD hS => ?_)
  have hP : va_P D vwCl [(h0, .inr (3, [.ref q7, .ref q15, .ref q23, .ref q31, .ref q39, .ref q47, .ref q55, .ref q63, .ref q71, .ref q78, .null, .int 0, .int 0])), (q7, .inl (cI, 20, .inl (fun _ => 0))), (q15, .inl (cI, 20, .inl (fun _ => 0))), (q23, .inl (cI, 80, .inl (fun _ => 0))), (q31, .inl (cI, 20, .inl (fun _ => 0))), (q39, .inl (cI, 20, .inl (fun _ => 0))), (q47, .inl (cI, 20, .inl (fun _ => 0))), (q55, .inl (cI, 20, .inl (fun _ => 0))), (q63, .inl (cI, 20, .inl (fun _ => 0))), (q71, .inl (cI, 60, .inl (fun _ => 0))), (q78, .inl (cI, 3, .inl (upd (upd (upd (fun _ => 0) 0 30) 1 60) 2 1))), (q98, .inr (0, [.int 0, .int 0, .int 0, .int 0, .int 0, .int 0, .int 0]))] H := hP
  have hD : va_D A [(h0, .inr (3, [.ref q7, .ref q15, .ref q23, .ref q31, .ref q39, .ref q47, .ref q55, .ref q63, .ref q71, .ref q78, .null, .int 0, .int 0])), (q7, .inl (cI, 20, .inl (fun _ => 0))), (q15, .inl (cI, 20, .inl (fun _ => 0))), (q23, .inl (cI, 80, .inl (fun _ => 0))), (q31, .inl (cI, 20, .inl (fun _ => 0))), (q39, .inl (cI, 20, .inl (fun _ => 0))), (q47, .inl (cI, 20, .inl (fun _ => 0))), (q55, .inl (cI, 20, .inl (fun _ => 0))), (q63, .inl (cI, 20, .inl (fun _ => 0))), (q71, .inl (cI, 60, .inl (fun _ => 0))), (q78, .inl (cI, 3, .inl (upd (upd (upd (fun _ => 0) 0 30) 1 60) 2 1))), (q98, .inr (0, [.int 0, .int 0, .int 0, .int 0, .int 0, .int 0, .int 0]))] := hD
  refine lv_dup hx hb dX4_init_101 rfl ?_
  refine rwIN (wc := [(q98, .inr (0, [.int 0, .int 0, .int 0, .int 0, .int 0, .int 0, .int 0]))]) (Rr := [(h0, .inr (3, [.ref q7, .ref q15, .ref q23, .ref q31, .ref q39, .ref q47, .ref q55, .ref q63, .ref q71, .ref q78, .null, .int 0, .int 0])), (q7, .inl (cI, 20, .inl (fun _ => 0))), (q15, .inl (cI, 20, .inl (fun _ => 0))), (q23, .inl (cI, 80, .inl (fun _ => 0))), (q31, .inl (cI, 20, .inl (fun _ => 0))), (q39, .inl (cI, 20, .inl (fun _ => 0))), (q47, .inl (cI, 20, .inl (fun _ => 0))), (q55, .inl (cI, 20, .inl (fun _ => 0))), (q63, .inl (cI, 20, .inl (fun _ => 0))), (q71, .inl (cI, 60, .inl (fun _ => 0))), (q78, .inl (cI, 3, .inl (upd (upd (upd (fun _ => 0) 0 30) 1 60) 2 1)))]) (wn := fun _ : Unit => [(q98, .inr (0, [.int 0, .int 0, .int 0, .int 0, .int 0, .int 0, .int 0]))]) (w1 := fun _ : Unit => [(h0, .inr (3, [.ref q7, .ref q15, .ref q23, .ref q31, .ref q39, .ref q47, .ref q55, .ref q63, .ref q71, .ref q78, .null, .int 0, .int 0])), (q7, .inl (cI, 20, .inl (fun _ => 0))), (q15, .inl (cI, 20, .inl (fun _ => 0))), (q23, .inl (cI, 80, .inl (fun _ => 0))), (q31, .inl (cI, 20, .inl (fun _ => 0))), (q39, .inl (cI, 20, .inl (fun _ => 0))), (q47, .inl (cI, 20, .inl (fun _ => 0))), (q55, .inl (cI, 20, .inl (fun _ => 0))), (q63, .inl (cI, 20, .inl (fun _ => 0))), (q71, .inl (cI, 60, .inl (fun _ => 0))), (q78, .inl (cI, 3, .inl (upd (upd (upd (fun _ => 0) 0 30) 1 60) 2 1))), (q98, .inr (0, [.int 0, .int 0, .int 0, .int 0, .int 0, .int 0, .int 0]))]) List.perm_append_comm (fun _ _ => List.perm_append_comm) ⟨hx, hb, hml, hown, hts⟩ (c_X0_init l D cI cC cW t q98 H.size 0 0 0 0 0 0 0) ⟨va_cnB 0 hts gX4_init_X0_init_n46 rfl rfl rfl (hX.1.2 ("PickSlots$Warehouse", 46, yX0_init) (List.mem_of_getElem? (i := 2) rfl)) wd17 (by decide +kernel) ⟨Nat.le_of_ble_eq_true rfl, Nat.le_of_ble_eq_true rfl⟩, rfl, wd19⟩ hP hD hK hX hS hA rfl hl.1 rfl (Nat.le_of_ble_eq_true rfl) dX4_init_102 ⟨Nat.le_of_ble_eq_true rfl, Nat.le_of_ble_eq_true rfl⟩ (fun _ H locs _ hP hD hS => ?_)
  refine va_putF (D := D) (ci := 3) (v := .ref q98) (ty := .object "PickSlots$Accounts") (C := RX4) (T := TX4) (N := 13) hx hb hts hi4 tyX4 tyX4_ok nmX4 hown hK hP hD hS 0 rfl rfl 10 (by decide) wd18 (fun _ h9 => h9) rfl hin rfl (by decide +kernel) rfl rfl (Nat.le_of_ble_eq_true rfl) dX4_init_105 (fun H locs hP hD hS => ?_)
  have hP : va_P D vwCl [(h0, .inr (3, [.ref q7, .ref q15, .ref q23, .ref q31, .ref q39, .ref q47, .ref q55, .ref q63, .ref q71, .ref q78, .ref q98, .int 0, .int 0])), (q7, .inl (cI, 20, .inl (fun _ => 0))), (q15, .inl (cI, 20, .inl (fun _ => 0))), (q23, .inl (cI, 80, .inl (fun _ => 0))), (q31, .inl (cI, 20, .inl (fun _ => 0))), (q39, .inl (cI, 20, .inl (fun _ => 0))), (q47, .inl (cI, 20, .inl (fun _ => 0))), (q55, .inl (cI, 20, .inl (fun _ => 0))), (q63, .inl (cI, 20, .inl (fun _ => 0))), (q71, .inl (cI, 60, .inl (fun _ => 0))), (q78, .inl (cI, 3, .inl (upd (upd (upd (fun _ => 0) 0 30) 1 60) 2 1))), (q98, .inr (0, [.int 0, .int 0, .int 0, .int 0, .int 0, .int 0, .int 0]))] H := hP
  have hD : va_D A [(h0, .inr (3, [.ref q7, .ref q15, .ref q23, .ref q31, .ref q39, .ref q47, .ref q55, .ref q63, .ref q71, .ref q78, .ref q98, .int 0, .int 0])), (q7, .inl (cI, 20, .inl (fun _ => 0))), (q15, .inl (cI, 20, .inl (fun _ => 0))), (q23, .inl (cI, 80, .inl (fun _ => 0))), (q31, .inl (cI, 20, .inl (fun _ => 0))), (q39, .inl (cI, 20, .inl (fun _ => 0))), (q47, .inl (cI, 20, .inl (fun _ => 0))), (q55, .inl (cI, 20, .inl (fun _ => 0))), (q63, .inl (cI, 20, .inl (fun _ => 0))), (q71, .inl (cI, 60, .inl (fun _ => 0))), (q78, .inl (cI, 3, .inl (upd (upd (upd (fun _ => 0) 0 30) 1 60) 2 1))), (q98, .inr (0, [.int 0, .int 0, .int 0, .int 0, .int 0, .int 0, .int 0]))] := hD
  obtain ⟨a, ha⟩ : ∃ a : Nat → Nat, a = adl [h0, q7, q15, q23, q31, q39, q47, q55, q63, q71, q78, q98] := ⟨_, rfl⟩
  have ea : a 0 = h0 := by rw [ha]; rfl
  have hP : va_P D vwCl (wg cI a N00 (fun _ => 0)) H := by rw [ha, wg_00]; exact hP
  have hD : va_D A (wg cI a N00 (fun _ => 0)) := by rw [ha, wg_00]; exact hD
  have e9 : q71 = a 9 := by rw [ha]; rfl
  have hl : lv_has ls 2 [(0, .ref (a 0))] := by rw [ea]; exact hl
  refine lv_iconst (v := 0) hx hb dX4_init_108 (by decide) ?_
  refine lv_istore_n (lv' := [(1, .int (nI 0)), (0, .ref (a 0))]) hx hb dX4_init_109 rfl hl (by decide) rfl (fun ls hl => ?_)
  refine W.widen (k := 11) (n := 290) (Nat.le_of_ble_eq_true rfl) (Nat.le_of_ble_eq_true rfl) ?_
  have L : ∀ (n i : Nat) (G : Nat → Int32), i ≤ 60 → 61 ≤ i + n → (∀ k, k < i → G k = -1) → ∀ (ls : Array Slot), lv_has ls 2 [(1, .int (nI i)), (0, .ref (a 0))] → ∀ (H : Heap) (locs : List Loc), va_P D vwCl (wg cI a N00 G) H → va_D A (wg cI a N00 G) → va_S A s.heap H locs → W p l e (headSpec wsX4_init ({ frames := 2, cells := 11, slots := 290, locals := 32 } : Room)).room s m [.ref h0].toArray below meth c H locs 11 290 (MQ below (va_Qv (fun u : (Nat → Nat) × (Nat → Int32) => u.1 0 = h0 ∧ ∀ k, k < 60 → u.2 k = -1) (fun u => rwB D A (wg cI u.1 N00 u.2)) A) [.ref h0].toArray s 11 290 A) (F0 m 110 ls []) := by
    intro n
    induction n with
    | zero => intro i G h1 h2; exact absurd h2 (by omega)
    | succ n ih =>
      intro i G h1 h2 h3 ls hl H locs hP hD hS
      refine lv_iload_n hx hb dX4_init_110 rfl (lv_at hl 0 rfl) ?_
      refine lv_bipush (v := 60) hx hb dX4_init_111 (by decide) ?_
      refine lv_icmp_ge (tgt := 129) hx hb dX4_init_113 (by decide) (fun c1 => ?_) (fun c1 => ?_)
      · have hi : i = 60 := by
          rcases Nat.lt_or_ge i 60 with q | q
          · exact absurd c1 (nI_ge q (by decide))
          · omega
        exact rw_cret (po := fun u : (Nat → Nat) × (Nat → Int32) => u.1 0 = h0 ∧ ∀ k, k < 60 → u.2 k = -1) (wn := fun u : (Nat → Nat) × (Nat → Int32) => wg cI u.1 N00 u.2) (a, G) hx hb hr hP hD hS ⟨ea, hi ▸ h3⟩ dX4_init_129 hlocks
      · have hi : i < 60 := Nat.lt_of_not_le (fun q => c1 (nI_le q (by omega)))
        refine lv_aload_n hx hb dX4_init_116 rfl (lv_at hl 1 rfl) ?_
        refine va_get (D := D) (ci := 3) (C := RX4) (T := TX4) (N := 13) hx hb hts hi4 hown hK hP 0 wg_0 rfl 8 (by decide) wd13 (fun _ h9 => h9) rfl dX4_init_117 ?_
        refine lv_iload_n hx hb dX4_init_120 rfl (lv_at hl 0 rfl) ?_
        refine lv_iconst (v := -1) hx hb dX4_init_121 (by decide) ?_
        refine my_iastK (k := i) hx hb hK hP hD hS 9 0 wg_9 rfl (nI_clamp (by omega)) (wg_s9 _ _) (vp_in_nI hi (by decide)) dX4_init_122 (fun H locs hP hD hS => ?_)
        refine lv_iinc (v := nI (i + 1)) (lv' := [(1, .int (nI (i + 1))), (0, .ref (a 0))]) hx hb dX4_init_123 hl (k := 0) rfl (nI_succ i).symm (by decide) rfl (fun ls hl => ?_)
        refine lv_goto (tgt := 110) hx hb dX4_init_126 (by decide) ?_
        refine ih (i + 1) _ hi (by omega) (fun k hk => ?_) _ hl _ _ hP hD hS
        unfold upd
        by_cases hki : k = i
        · rw [if_pos hki]
        · rw [if_neg hki]; exact h3 k (by omega)
  exact L 61 0 _ (by omega) (by omega) (fun k hk => absurd hk (by omega)) _ hl _ _ hP hD hS
