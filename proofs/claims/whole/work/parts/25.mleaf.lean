/-! the model: its smallest methods (printed by wip/whole/m4.py) -/
def sp_X6_of (N : Nat → Int32) (Z : Nat → Nat → Int32) (x1 x2 : Int32) : Int32 :=
  (N ((ix (((16 : Int32) + ((11 : Int32) * x1)) + x2))))
set_option maxHeartbeats 4000000 in
set_option maxRecDepth 100000 in
theorem c_X6_of (l : Launch) (D : va_G) (cI cC cW : ClassId) (t : Nat → Nat) (a : Nat → Nat) (N : Nat → Int32) (Z : Nat → Nat → Int32) (x1 x2 : Int32) (h1 : vp_in x1 20) (h2 : vp_in x2 11) : Met l yX6_of wsX6_of ({ frames := 0, cells := 0, slots := 0, locals := 0 }) (va_Pc [.ref (a 0), .int x1, .int x2] (roP D (tyL cI cC cW) (md cI a N Z) t)) (vp_Si (fun r => r = sp_X6_of N Z x1 x2)) 0 0 (fun _ => False) := by
  refine Met.ofW (cc := cX6_of) (maxL := 3) (ret := (some .int)) (by decide) rfl ?_
  intro p e s m args below meth c s₁ B hml hv
  obtain ⟨rfl, hP, hK, hX⟩ := hv
  have hx := B.exec
  have hb := B.bytes
  have hr := B.returns
  have hts := atoms_spec (ws := wsX6_of) B.pre
  have hown : s.vm.findClass RX6 = some m.cls := findClass_of_methodNamed B.named
  have hlocks := B.notSynchronized
  have hS : va_S (fun _ => False) s.heap s.heap [] := va_S.rf
  have wd1 : (Cond.fieldLink RX6 7 "PickSlotsModel" "now" "[I").before [.ref (a 0), .int x1, .int x2].toArray s = true := hts _ (List.mem_of_getElem? (i := 1) rfl)
  have hi6 : ∀ w ∈ wsX60, w ∈ wsX6_of := fun w h => List.mem_cons_of_mem _ (List.mem_append_right _ (h))
  have hl := lv_entry ([.ref (a 0), .int x1, .int x2]) (n := 3) (Nat.le_of_ble_eq_true rfl)
  rw [lg_entry_eq]
  generalize (lg_sl ([.ref (a 0), .int x1, .int x2]) ++ List.replicate (3 - (lg_sl ([.ref (a 0), .int x1, .int x2])).length) Slot.unset).toArray = ls at hl ⊢
  have hl : lv_has ls 3 [(0, .ref (a 0)), (1, .int x1), (2, .int x2)] := hl
  refine lv_aload_n hx hb dX6_of_0 rfl (lv_at hl 0 rfl) ?_
  refine va_get (D := D) (ci := 5) (C := RX6) (T := TX6) (N := 17) hx hb hts hi6 hown hK hP 0 md_0 rfl 0 (by decide) wd1 (fun _ h9 => h9) rfl dX6_of_1 ?_
  refine lv_bipush (v := 16) hx hb dX6_of_4 (by decide) ?_
  refine lv_bipush (v := 11) hx hb dX6_of_6 (by decide) ?_
  refine lv_iload_n hx hb dX6_of_8 rfl (lv_at hl 1 rfl) ?_
  refine lv_imul hx hb dX6_of_9 ?_
  refine lv_iadd hx hb dX6_of_10 ?_
  refine lv_iload_n hx hb dX6_of_11 rfl (lv_at hl 2 rfl) ?_
  refine lv_iadd hx hb dX6_of_12 ?_
  refine va_iald hx hb hK hP 1 0 md_1 rfl (mo h1 h2) dX6_of_13 ?_
  exact ro_ret hx hb hr (rfl) dX6_of_14 hlocks

def sp_X6_lays (N : Nat → Int32) (Z : Nat → Nat → Int32) (x1 x2 x3 : Int32) : Nat → Int32 :=
  let N1 : Nat → Int32 := upd N ((ix (((16 : Int32) + ((11 : Int32) * x1)) + x2))) x3; N1
set_option maxHeartbeats 4000000 in
set_option maxRecDepth 100000 in
theorem c_X6_lays (l : Launch) (D : va_G) (cI cC cW : ClassId) (t : Nat → Nat) (a : Nat → Nat) (sz : Nat) (N : Nat → Int32) (Z : Nat → Nat → Int32) (x1 x2 x3 : Int32) (h1 : vp_in x1 20) (h2 : vp_in x2 11) : Met l yX6_lays wsX6_lays ({ frames := 0, cells := 0, slots := 0, locals := 0 }) (va_Pc [.ref (a 0), .int x1, .int x2, .int x3] (rwP D (tyL cI cC cW) (md cI a N Z) t sz)) (va_Qv (fun (u : Nat → Int32) => u = sp_X6_lays N Z x1 x2 x3) (fun u => rwB D (va_A (md cI a N Z) sz) (md cI a u Z)) (va_A (md cI a N Z) sz)) 0 0 (va_A (md cI a N Z) sz) := by
  refine Met.ofW (cc := cX6_lays) (maxL := 4) (ret := none) (by decide) rfl ?_
  intro p e s m args below meth c s₁ B hml hv
  obtain ⟨rfl, hsz, hP, hK, hD0, hX⟩ := hv
  have hx := B.exec
  have hb := B.bytes
  have hr := B.returns
  have hts := atoms_spec (ws := wsX6_lays) B.pre
  have hown : s.vm.findClass RX6 = some m.cls := findClass_of_methodNamed B.named
  have hlocks := B.notSynchronized
  subst hsz
  have hD := hD0.self (sz := s.heap.size)
  generalize hAe : va_A (md cI a N Z) s.heap.size = A at hD hX ⊢
  have hA : ∀ q : Nat, s.heap.size ≤ q → A q := fun q h => by rw [← hAe]; exact Or.inr h
  have hS : va_S A s.heap s.heap [] := va_S.rf
  have wd1 : (Cond.fieldLink RX6 7 "PickSlotsModel" "now" "[I").before [.ref (a 0), .int x1, .int x2, .int x3].toArray s = true := hts _ (List.mem_of_getElem? (i := 1) rfl)
  have hi6 : ∀ w ∈ wsX60, w ∈ wsX6_lays := fun w h => List.mem_cons_of_mem _ (List.mem_append_right _ (h))
  have hl := lv_entry ([.ref (a 0), .int x1, .int x2, .int x3]) (n := 4) (Nat.le_of_ble_eq_true rfl)
  rw [lg_entry_eq]
  generalize (lg_sl ([.ref (a 0), .int x1, .int x2, .int x3]) ++ List.replicate (4 - (lg_sl ([.ref (a 0), .int x1, .int x2, .int x3])).length) Slot.unset).toArray = ls at hl ⊢
  have hl : lv_has ls 4 [(0, .ref (a 0)), (1, .int x1), (2, .int x2), (3, .int x3)] := hl
  refine lv_aload_n hx hb dX6_lays_0 rfl (lv_at hl 0 rfl) ?_
  refine va_get (D := D) (ci := 5) (C := RX6) (T := TX6) (N := 17) hx hb hts hi6 hown hK hP 0 md_0 rfl 0 (by decide) wd1 (fun _ h9 => h9) rfl dX6_lays_1 ?_
  refine lv_bipush (v := 16) hx hb dX6_lays_4 (by decide) ?_
  refine lv_bipush (v := 11) hx hb dX6_lays_6 (by decide) ?_
  refine lv_iload_n hx hb dX6_lays_8 rfl (lv_at hl 1 rfl) ?_
  refine lv_imul hx hb dX6_lays_9 ?_
  refine lv_iadd hx hb dX6_lays_10 ?_
  refine lv_iload_n hx hb dX6_lays_11 rfl (lv_at hl 2 rfl) ?_
  refine lv_iadd hx hb dX6_lays_12 ?_
  refine lv_iload_n hx hb dX6_lays_13 rfl (lv_at hl 3 rfl) ?_
  refine my_iast hx hb hK hP hD hS 1 0 md_1 rfl (md_s1 _ _) (mo h1 h2) dX6_lays_14 (fun H locs hP hD hS => ?_)
  exact rw_vret _ hx hb hr hP hD hS (rfl) dX6_lays_15 hlocks

def sp_X6_adds (N : Nat → Int32) (Z : Nat → Nat → Int32) (x1 x2 : Int32) : Nat → Int32 :=
  let N1 : Nat → Int32 := upd N ((ix ((5 : Int32) + x1))) ((N ((ix ((5 : Int32) + x1)))) + x2); N1
set_option maxHeartbeats 4000000 in
set_option maxRecDepth 100000 in
theorem c_X6_adds (l : Launch) (D : va_G) (cI cC cW : ClassId) (t : Nat → Nat) (a : Nat → Nat) (sz : Nat) (N : Nat → Int32) (Z : Nat → Nat → Int32) (x1 x2 : Int32) (h1 : vp_in x1 8) : Met l yX6_adds wsX6_adds ({ frames := 0, cells := 0, slots := 0, locals := 0 }) (va_Pc [.ref (a 0), .int x1, .int x2] (rwP D (tyL cI cC cW) (md cI a N Z) t sz)) (va_Qv (fun (u : Nat → Int32) => u = sp_X6_adds N Z x1 x2) (fun u => rwB D (va_A (md cI a N Z) sz) (md cI a u Z)) (va_A (md cI a N Z) sz)) 0 0 (va_A (md cI a N Z) sz) := by
  refine Met.ofW (cc := cX6_adds) (maxL := 3) (ret := none) (by decide) rfl ?_
  intro p e s m args below meth c s₁ B hml hv
  obtain ⟨rfl, hsz, hP, hK, hD0, hX⟩ := hv
  have hx := B.exec
  have hb := B.bytes
  have hr := B.returns
  have hts := atoms_spec (ws := wsX6_adds) B.pre
  have hown : s.vm.findClass RX6 = some m.cls := findClass_of_methodNamed B.named
  have hlocks := B.notSynchronized
  subst hsz
  have hD := hD0.self (sz := s.heap.size)
  generalize hAe : va_A (md cI a N Z) s.heap.size = A at hD hX ⊢
  have hA : ∀ q : Nat, s.heap.size ≤ q → A q := fun q h => by rw [← hAe]; exact Or.inr h
  have hS : va_S A s.heap s.heap [] := va_S.rf
  have wd1 : (Cond.fieldLink RX6 7 "PickSlotsModel" "now" "[I").before [.ref (a 0), .int x1, .int x2].toArray s = true := hts _ (List.mem_of_getElem? (i := 1) rfl)
  have hi6 : ∀ w ∈ wsX60, w ∈ wsX6_adds := fun w h => List.mem_cons_of_mem _ (List.mem_append_right _ (h))
  have hl := lv_entry ([.ref (a 0), .int x1, .int x2]) (n := 3) (Nat.le_of_ble_eq_true rfl)
  rw [lg_entry_eq]
  generalize (lg_sl ([.ref (a 0), .int x1, .int x2]) ++ List.replicate (3 - (lg_sl ([.ref (a 0), .int x1, .int x2])).length) Slot.unset).toArray = ls at hl ⊢
  have hl : lv_has ls 3 [(0, .ref (a 0)), (1, .int x1), (2, .int x2)] := hl
  refine lv_aload_n hx hb dX6_adds_0 rfl (lv_at hl 0 rfl) ?_
  refine va_get (D := D) (ci := 5) (C := RX6) (T := TX6) (N := 17) hx hb hts hi6 hown hK hP 0 md_0 rfl 0 (by decide) wd1 (fun _ h9 => h9) rfl dX6_adds_1 ?_
  refine lv_iconst (v := 5) hx hb dX6_adds_4 (by decide) ?_
  refine lv_iload_n hx hb dX6_adds_5 rfl (lv_at hl 1 rfl) ?_
  refine lv_iadd hx hb dX6_adds_6 ?_
  refine lv_dup2_11 hx hb dX6_adds_7 rfl rfl ?_
  refine va_iald hx hb hK hP 1 0 md_1 rfl (m5 h1) dX6_adds_8 ?_
  refine lv_iload_n hx hb dX6_adds_9 rfl (lv_at hl 2 rfl) ?_
  refine lv_iadd hx hb dX6_adds_10 ?_
  refine my_iast hx hb hK hP hD hS 1 0 md_1 rfl (md_s1 _ _) (m5 h1) dX6_adds_11 (fun H locs hP hD hS => ?_)
  exact rw_vret _ hx hb hr hP hD hS (rfl) dX6_adds_12 hlocks

def sp_X6_isGood (N : Nat → Int32) (Z : Nat → Nat → Int32) (x1 : Int32) : Int32 :=
  (sp_X6_in x1 (0 : Int32) ((N 0) - (1 : Int32)))
set_option maxHeartbeats 4000000 in
set_option maxRecDepth 100000 in
theorem c_X6_isGood (l : Launch) (D : va_G) (cI cC cW : ClassId) (t : Nat → Nat) (a : Nat → Nat) (N : Nat → Int32) (Z : Nat → Nat → Int32) (x1 : Int32)  : Met l yX6_isGood wsX6_isGood ({ frames := 1, cells := 0, slots := 0, locals := 22 }) (va_Pc [.ref (a 0), .int x1] (roP D (tyL cI cC cW) (md cI a N Z) t)) (vp_Si (fun r => r = sp_X6_isGood N Z x1)) 0 0 (fun _ => False) := by
  refine Met.ofW (cc := cX6_isGood) (maxL := 2) (ret := (some .boolean)) (by decide) rfl ?_
  intro p e s m args below meth c s₁ B hml hv
  obtain ⟨rfl, hP, hK, hX⟩ := hv
  have hx := B.exec
  have hb := B.bytes
  have hr := B.returns
  have hts := atoms_spec (ws := wsX6_isGood) B.pre
  have hown : s.vm.findClass RX6 = some m.cls := findClass_of_methodNamed B.named
  have hlocks := B.notSynchronized
  have hS : va_S (fun _ => False) s.heap s.heap [] := va_S.rf
  have wd1 : (Cond.fieldLink RX6 7 "PickSlotsModel" "now" "[I").before [.ref (a 0), .int x1].toArray s = true := hts _ (List.mem_of_getElem? (i := 1) rfl)
  have hi6 : ∀ w ∈ wsX60, w ∈ wsX6_isGood := fun w h => List.mem_cons_of_mem _ (List.mem_append_right _ (h))
  have CF : CallFix p m c cX6_isGood 2 s [.ref (a 0), .int x1].toArray wsX6_isGood RX6 := ⟨hx, hb, hml, hown, hts⟩
  have hl := lv_entry ([.ref (a 0), .int x1]) (n := 2) (Nat.le_of_ble_eq_true rfl)
  rw [lg_entry_eq]
  generalize (lg_sl ([.ref (a 0), .int x1]) ++ List.replicate (2 - (lg_sl ([.ref (a 0), .int x1])).length) Slot.unset).toArray = ls at hl ⊢
  have hl : lv_has ls 2 [(0, .ref (a 0)), (1, .int x1)] := hl
  refine lv_iload_n hx hb dX6_isGood_0 rfl (lv_at hl 1 rfl) ?_
  refine lv_iconst (v := 0) hx hb dX6_isGood_1 (by decide) ?_
  refine lv_aload_n hx hb dX6_isGood_2 rfl (lv_at hl 0 rfl) ?_
  refine va_get (D := D) (ci := 5) (C := RX6) (T := TX6) (N := 17) hx hb hts hi6 hown hK hP 0 md_0 rfl 0 (by decide) wd1 (fun _ h9 => h9) rfl dX6_isGood_3 ?_
  refine lv_iconst (v := 0) hx hb dX6_isGood_6 (by decide) ?_
  refine my_ialdK (k := 0) hx hb hK hP 1 0 md_1 rfl (by decide) (by first | assumption | (unfold vp_in; decide)) dX6_isGood_7 ?_
  refine lv_iconst (v := 1) hx hb dX6_isGood_8 (by decide) ?_
  refine lv_isub hx hb dX6_isGood_9 ?_
  refine roS CF (c_X6_in l D cI cC cW t _ _ _ ) (va_cwS 3 hts gX6_isGood_X6_in rfl rfl rfl (by decide +kernel) ⟨Nat.le_of_ble_eq_true rfl, Nat.le_of_ble_eq_true rfl⟩) vP_nil hK hX hS rfl hl.1 rfl (Nat.le_of_ble_eq_true rfl) dX6_isGood_10 ⟨Nat.zero_le _, Nat.zero_le _⟩ ?_
  exact ro_zret hx hb hr (zb_X6_in) (rfl) dX6_isGood_13 hlocks
theorem zb_X6_isGood {N : Nat → Int32} {Z : Nat → Nat → Int32} {x1 : Int32} : narrow .boolean (.int (sp_X6_isGood N Z x1)) = .int (sp_X6_isGood N Z x1) := by
  unfold sp_X6_isGood
  (repeat' split) <;> first | (with_reducible exact zb_X6_in) | rfl

def sp_X6_season (N : Nat → Int32) (Z : Nat → Nat → Int32) : Int32 :=
  (((N 1) / (13 : Int32)) - ((N 1) / (13 : Int32)) / (4 : Int32) * (4 : Int32))
set_option maxHeartbeats 4000000 in
set_option maxRecDepth 100000 in
theorem c_X6_season (l : Launch) (D : va_G) (cI cC cW : ClassId) (t : Nat → Nat) (a : Nat → Nat) (N : Nat → Int32) (Z : Nat → Nat → Int32)  : Met l yX6_season wsX6_season ({ frames := 0, cells := 0, slots := 0, locals := 0 }) (va_Pc [.ref (a 0)] (roP D (tyL cI cC cW) (md cI a N Z) t)) (vp_Si (fun r => r = sp_X6_season N Z)) 0 0 (fun _ => False) := by
  refine Met.ofW (cc := cX6_season) (maxL := 1) (ret := (some .int)) (by decide) rfl ?_
  intro p e s m args below meth c s₁ B hml hv
  obtain ⟨rfl, hP, hK, hX⟩ := hv
  have hx := B.exec
  have hb := B.bytes
  have hr := B.returns
  have hts := atoms_spec (ws := wsX6_season) B.pre
  have hown : s.vm.findClass RX6 = some m.cls := findClass_of_methodNamed B.named
  have hlocks := B.notSynchronized
  have hS : va_S (fun _ => False) s.heap s.heap [] := va_S.rf
  have wd1 : (Cond.fieldLink RX6 7 "PickSlotsModel" "now" "[I").before [.ref (a 0)].toArray s = true := hts _ (List.mem_of_getElem? (i := 1) rfl)
  have hi6 : ∀ w ∈ wsX60, w ∈ wsX6_season := fun w h => List.mem_cons_of_mem _ (List.mem_append_right _ (h))
  have hl := lv_entry ([.ref (a 0)]) (n := 1) (Nat.le_of_ble_eq_true rfl)
  rw [lg_entry_eq]
  generalize (lg_sl ([.ref (a 0)]) ++ List.replicate (1 - (lg_sl ([.ref (a 0)])).length) Slot.unset).toArray = ls at hl ⊢
  have hl : lv_has ls 1 [(0, .ref (a 0))] := hl
  refine lv_aload_n hx hb dX6_season_0 rfl (lv_at hl 0 rfl) ?_
  refine va_get (D := D) (ci := 5) (C := RX6) (T := TX6) (N := 17) hx hb hts hi6 hown hK hP 0 md_0 rfl 0 (by decide) wd1 (fun _ h9 => h9) rfl dX6_season_1 ?_
  refine lv_iconst (v := 1) hx hb dX6_season_4 (by decide) ?_
  refine my_ialdK (k := 1) hx hb hK hP 1 0 md_1 rfl (by decide) (by first | assumption | (unfold vp_in; decide)) dX6_season_5 ?_
  refine lv_bipush (v := 13) hx hb dX6_season_6 (by decide) ?_
  refine lv_idiv hx hb dX6_season_8 (by first | assumption | decide) ?_
  refine lv_iconst (v := 4) hx hb dX6_season_9 (by decide) ?_
  refine lv_irem hx hb dX6_season_10 (by first | assumption | decide) ?_
  exact ro_ret hx hb hr (rfl) dX6_season_11 hlocks

def sp_X6_weeksLeft (N : Nat → Int32) (Z : Nat → Nat → Int32) : Int32 :=
  ((13 : Int32) - ((N 1) - (N 1) / (13 : Int32) * (13 : Int32)))
set_option maxHeartbeats 4000000 in
set_option maxRecDepth 100000 in
theorem c_X6_weeksLeft (l : Launch) (D : va_G) (cI cC cW : ClassId) (t : Nat → Nat) (a : Nat → Nat) (N : Nat → Int32) (Z : Nat → Nat → Int32)  : Met l yX6_weeksLeft wsX6_weeksLeft ({ frames := 0, cells := 0, slots := 0, locals := 0 }) (va_Pc [.ref (a 0)] (roP D (tyL cI cC cW) (md cI a N Z) t)) (vp_Si (fun r => r = sp_X6_weeksLeft N Z)) 0 0 (fun _ => False) := by
  refine Met.ofW (cc := cX6_weeksLeft) (maxL := 1) (ret := (some .int)) (by decide) rfl ?_
  intro p e s m args below meth c s₁ B hml hv
  obtain ⟨rfl, hP, hK, hX⟩ := hv
  have hx := B.exec
  have hb := B.bytes
  have hr := B.returns
  have hts := atoms_spec (ws := wsX6_weeksLeft) B.pre
  have hown : s.vm.findClass RX6 = some m.cls := findClass_of_methodNamed B.named
  have hlocks := B.notSynchronized
  have hS : va_S (fun _ => False) s.heap s.heap [] := va_S.rf
  have wd1 : (Cond.fieldLink RX6 7 "PickSlotsModel" "now" "[I").before [.ref (a 0)].toArray s = true := hts _ (List.mem_of_getElem? (i := 1) rfl)
  have hi6 : ∀ w ∈ wsX60, w ∈ wsX6_weeksLeft := fun w h => List.mem_cons_of_mem _ (List.mem_append_right _ (h))
  have hl := lv_entry ([.ref (a 0)]) (n := 1) (Nat.le_of_ble_eq_true rfl)
  rw [lg_entry_eq]
  generalize (lg_sl ([.ref (a 0)]) ++ List.replicate (1 - (lg_sl ([.ref (a 0)])).length) Slot.unset).toArray = ls at hl ⊢
  have hl : lv_has ls 1 [(0, .ref (a 0))] := hl
  refine lv_bipush (v := 13) hx hb dX6_weeksLeft_0 (by decide) ?_
  refine lv_aload_n hx hb dX6_weeksLeft_2 rfl (lv_at hl 0 rfl) ?_
  refine va_get (D := D) (ci := 5) (C := RX6) (T := TX6) (N := 17) hx hb hts hi6 hown hK hP 0 md_0 rfl 0 (by decide) wd1 (fun _ h9 => h9) rfl dX6_weeksLeft_3 ?_
  refine lv_iconst (v := 1) hx hb dX6_weeksLeft_6 (by decide) ?_
  refine my_ialdK (k := 1) hx hb hK hP 1 0 md_1 rfl (by decide) (by first | assumption | (unfold vp_in; decide)) dX6_weeksLeft_7 ?_
  refine lv_bipush (v := 13) hx hb dX6_weeksLeft_8 (by decide) ?_
  refine lv_irem hx hb dX6_weeksLeft_10 (by first | assumption | decide) ?_
  refine lv_isub hx hb dX6_weeksLeft_11 ?_
  exact ro_ret hx hb hr (rfl) dX6_weeksLeft_12 hlocks

def lp2_X6_goodAt (N : Nat → Int32) (Z : Nat → Nat → Int32) (x1 : Int32) : Nat → Int32 → Int32
  | 0, v2 => 0
  | n + 1, v2 => if (N 0) ≤ v2 then ((-1 : Int32)) else (if (sp_X6_of N Z v2 (6 : Int32)) = x1 then (v2) else (lp2_X6_goodAt N Z x1 n (v2 + (1 : Int32)) ))
theorem lp2_X6_goodAt_s (N : Nat → Int32) (Z : Nat → Nat → Int32) (x1 : Int32) (n : Nat) (v2 : Int32)  : lp2_X6_goodAt N Z x1 (n + 1) v2 = if (N 0) ≤ v2 then ((-1 : Int32)) else (if (sp_X6_of N Z v2 (6 : Int32)) = x1 then (v2) else (lp2_X6_goodAt N Z x1 n (v2 + (1 : Int32)) )) := rfl
def sp_X6_goodAt (N : Nat → Int32) (Z : Nat → Nat → Int32) (x1 : Int32) : Int32 :=
  lp2_X6_goodAt N Z x1 21 (0 : Int32) 
set_option maxHeartbeats 4000000 in
set_option maxRecDepth 100000 in
theorem c_X6_goodAt (l : Launch) (D : va_G) (cI cC cW : ClassId) (t : Nat → Nat) (a : Nat → Nat) (N : Nat → Int32) (Z : Nat → Nat → Int32) (x1 : Int32) (hsf : sfN N) : Met l yX6_goodAt wsX6_goodAt ({ frames := 1, cells := 0, slots := 0, locals := 22 }) (va_Pc [.ref (a 0), .int x1] (roP D (tyL cI cC cW) (md cI a N Z) t)) (vp_Si (fun r => r = sp_X6_goodAt N Z x1)) 0 0 (fun _ => False) := by
  refine Met.ofW (cc := cX6_goodAt) (maxL := 3) (ret := (some .int)) (by decide) rfl ?_
  intro p e s m args below meth c s₁ B hml hv
  obtain ⟨rfl, hP, hK, hX⟩ := hv
  have hx := B.exec
  have hb := B.bytes
  have hr := B.returns
  have hts := atoms_spec (ws := wsX6_goodAt) B.pre
  have hown : s.vm.findClass RX6 = some m.cls := findClass_of_methodNamed B.named
  have hlocks := B.notSynchronized
  have hS : va_S (fun _ => False) s.heap s.heap [] := va_S.rf
  have wd1 : (Cond.fieldLink RX6 7 "PickSlotsModel" "now" "[I").before [.ref (a 0), .int x1].toArray s = true := hts _ (List.mem_of_getElem? (i := 1) rfl)
  have hi6 : ∀ w ∈ wsX60, w ∈ wsX6_goodAt := fun w h => List.mem_cons_of_mem _ (List.mem_append_right _ (h))
  have CF : CallFix p m c cX6_goodAt 3 s [.ref (a 0), .int x1].toArray wsX6_goodAt RX6 := ⟨hx, hb, hml, hown, hts⟩
  have hl := lv_entry ([.ref (a 0), .int x1]) (n := 3) (Nat.le_of_ble_eq_true rfl)
  rw [lg_entry_eq]
  generalize (lg_sl ([.ref (a 0), .int x1]) ++ List.replicate (3 - (lg_sl ([.ref (a 0), .int x1])).length) Slot.unset).toArray = ls at hl ⊢
  have hl : lv_has ls 3 [(0, .ref (a 0)), (1, .int x1)] := hl
  refine lv_iconst (v := 0) hx hb dX6_goodAt_0 (by decide) ?_
  refine lv_istore_n (lv' := [(2, .int _), (0, .ref _), (1, .int _)]) hx hb dX6_goodAt_1 rfl hl (by decide) rfl (fun ls hl => ?_)
  have L2 : ∀ (n2 : Nat) (v2 : Int32), (0 ≤ v2.toInt) → (v2.toInt ≤ (N 0).toInt) → ((N 0).toInt - v2.toInt < (n2 : Int)) → sp_X6_goodAt N Z x1 = lp2_X6_goodAt N Z x1 (n2) v2  → ∀ (ls : Array Slot), lv_has ls 3 [(2, .int v2), (0, .ref (a 0)), (1, .int x1)] → W p l e (headSpec wsX6_goodAt ({ frames := 1, cells := 0, slots := 0, locals := 22 } : Room)).room s m [.ref (a 0), .int x1].toArray below meth c s.heap [] 0 0 (MQ below (vp_Si (fun r => r = sp_X6_goodAt N Z x1)) [.ref (a 0), .int x1].toArray s 0 0 (fun _ => False)) (F0 m 2 ls []) := by
    intro n2
    induction n2 with
    | zero => intro v2  i1 i2 im; exfalso; omega
    | succ n2 ih2 =>
      intro v2  i1 i2 im hsp2 ls hl
      refine lv_iload_n hx hb dX6_goodAt_2 rfl (lv_at hl 0 rfl) ?_
      refine lv_aload_n hx hb dX6_goodAt_3 rfl (lv_at hl 1 rfl) ?_
      refine va_get (D := D) (ci := 5) (C := RX6) (T := TX6) (N := 17) hx hb hts hi6 hown hK hP 0 md_0 rfl 0 (by decide) wd1 (fun _ h9 => h9) rfl dX6_goodAt_4 ?_
      refine lv_iconst (v := 0) hx hb dX6_goodAt_7 (by decide) ?_
      refine my_ialdK (k := 0) hx hb hK hP 1 0 md_1 rfl (by decide) (by first | assumption | (unfold vp_in; decide)) dX6_goodAt_8 ?_
      refine lv_icmp_ge (tgt := 31) hx hb dX6_goodAt_9 (by decide) (fun c9 => ?_) (fun c9 => ?_)
      · refine lv_iconst (v := -1) hx hb dX6_goodAt_31 (by decide) ?_
        exact ro_ret hx hb hr (Eq.trans hsp2 (Eq.trans (lp2_X6_goodAt_s _ _ _ _ _) (Eq.trans (if_pos c9) (rfl)))) dX6_goodAt_32 hlocks
      · have hv : vp_in v2 20 := cnin20 hsf i1 c9
        refine lv_aload_n hx hb dX6_goodAt_12 rfl (lv_at hl 1 rfl) ?_
        refine lv_iload_n hx hb dX6_goodAt_13 rfl (lv_at hl 0 rfl) ?_
        refine lv_bipush (v := 6) hx hb dX6_goodAt_14 (by decide) ?_
        refine roV CF (c_X6_of l D cI cC cW t _ _ _ _ _ (by first | assumption | (unfold vp_in; decide)) (by first | assumption | (unfold vp_in; decide))) (cwV 2 hts gX6_goodAt_X6_of rfl rfl rfl (by decide +kernel) ⟨Nat.le_of_ble_eq_true rfl, Nat.le_of_ble_eq_true rfl⟩) hP hK hX hS 0 5 md_0 rfl rfl hl.1 rfl (Nat.le_of_ble_eq_true rfl) dX6_goodAt_16 ⟨Nat.zero_le _, Nat.zero_le _⟩ ?_
        refine lv_iload_n hx hb dX6_goodAt_19 rfl (lv_at hl 2 rfl) ?_
        refine lv_icmp_ne (tgt := 25) hx hb dX6_goodAt_20 (by decide) (fun c20 => ?_) (fun c20 => ?_)
        · refine lv_iinc (v := _ + (1 : Int32)) (lv' := [(2, .int _), (0, .ref _), (1, .int _)]) hx hb dX6_goodAt_25 hl (k := 0) rfl rfl (by decide) rfl (fun ls hl => ?_)
          refine lv_goto (tgt := 2) hx hb dX6_goodAt_28 (by decide) ?_
          exact ih2 _ (cs1 i1 c9) (cs2 c9) (csm c9 im) (Eq.trans hsp2 (Eq.trans (lp2_X6_goodAt_s _ _ _ _ _) (Eq.trans (if_neg c9) (Eq.trans (if_neg c20) (rfl))))) _ (lv_sub hl [0, 1, 2] rfl)
        · refine lv_iload_n hx hb dX6_goodAt_23 rfl (lv_at hl 0 rfl) ?_
          exact ro_ret hx hb hr (Eq.trans hsp2 (Eq.trans (lp2_X6_goodAt_s _ _ _ _ _) (Eq.trans (if_neg c9) (Eq.trans (if_pos c20) (rfl))))) dX6_goodAt_24 hlocks
  exact L2 21 _ (by decide) (cn2 hsf) (cnm hsf) (rfl) _ (lv_sub hl [0, 1, 2] rfl)
