/-! PickSlots: its calls (printed by wip/whole/m14.py) -/
def sp_X5_startTrial (Y : Nat → va_H) (S : Nat → Int32) (q : Nat → Int32) (V : Nat → Int32) (z : Int32) (U : Nat → Int32) (y : Int32) (I : Nat → Int32) : Nat → va_H :=
  let Y2 : Nat → va_H := w5 Y (Y 4).2.1 (Y 4).2.2; Y2
set_option maxHeartbeats 4000000 in
set_option maxRecDepth 100000 in
theorem c_X5_startTrial (l : Launch) (D : va_G) (cI cC cW : ClassId) (t : Nat → Nat) (h : Nat → Nat) (sz : Nat) (Y : Nat → va_H) (S : Nat → Int32) (q : Nat → Int32) (V : Nat → Int32) (z : Int32) (U : Nat → Int32) (y : Int32) (I : Nat → Int32)  : Met l yX5_startTrial wsX5_startTrial ({ frames := 3, cells := 0, slots := 0, locals := 60 }) (va_Pc [.ref (h 0)] (rwP D (tyL cI cC cW) (ps cI cC cW h Y S q V z U y I) t sz)) (va_Qv (fun (u : Nat → va_H) => u = sp_X5_startTrial Y S q V z U y I) (fun u => rwB D (va_A (ps cI cC cW h Y S q V z U y I) sz) (ps cI cC cW h u S q V z U y I)) (va_A (ps cI cC cW h Y S q V z U y I) sz)) 0 0 (va_A (ps cI cC cW h Y S q V z U y I) sz) := by
  refine Met.ofW (cc := cX5_startTrial) (maxL := 1) (ret := none) (by decide) rfl ?_
  intro p e s m args below meth c s₁ B hml hv
  obtain ⟨rfl, hsz, hP, hK, hD0, hX⟩ := hv
  have hx := B.exec
  have hb := B.bytes
  have hr := B.returns
  have hts := atoms_spec (ws := wsX5_startTrial) B.pre
  have hown : s.vm.findClass RX5 = some m.cls := findClass_of_methodNamed B.named
  have hlocks := B.notSynchronized
  subst hsz
  have hD := hD0.self (sz := s.heap.size)
  generalize hAe : va_A (ps cI cC cW h Y S q V z U y I) s.heap.size = A at hD hX ⊢
  have hA : ∀ q : Nat, s.heap.size ≤ q → A q := fun q h => by rw [← hAe]; exact Or.inr h
  have hS : va_S A s.heap s.heap [] := va_S.rf
  have wd1 : (Cond.fieldLink RX5 37 "PickSlots" "trial" "LPickSlots$Warehouse;").before [.ref (h 0)].toArray s = true := hts _ (List.mem_of_getElem? (i := 1) rfl)
  have wd2 : (Cond.fieldLink RX5 33 "PickSlots" "now" "LPickSlots$Warehouse;").before [.ref (h 0)].toArray s = true := hts _ (List.mem_of_getElem? (i := 2) rfl)
  have hi5 : ∀ w ∈ wsX50, w ∈ wsX5_startTrial := fun w h => List.mem_cons_of_mem _ (List.mem_append_left _ (List.mem_append_left _ (List.mem_append_right _ (h))))
  have CF : CallFix p m c cX5_startTrial 1 s [.ref (h 0)].toArray wsX5_startTrial RX5 := ⟨hx, hb, hml, hown, hts⟩
  have hl := lv_entry ([.ref (h 0)]) (n := 1) (Nat.le_of_ble_eq_true rfl)
  rw [lg_entry_eq]
  generalize (lg_sl ([.ref (h 0)]) ++ List.replicate (1 - (lg_sl ([.ref (h 0)])).length) Slot.unset).toArray = ls at hl ⊢
  have hl : lv_has ls 1 [(0, .ref (h 0))] := hl
  refine lv_aload_n hx hb dX5_startTrial_0 rfl (lv_at hl 0 rfl) ?_
  refine va_get (D := D) (ci := 4) (C := RX5) (T := TX5) (N := 9) hx hb hts hi5 hown hK hP 0 ps_0 rfl 5 (by decide) wd1 (fun _ h9 => h9) rfl dX5_startTrial_1 ?_
  refine lv_aload_n hx hb dX5_startTrial_4 rfl (lv_at hl 0 rfl) ?_
  refine va_get (D := D) (ci := 4) (C := RX5) (T := TX5) (N := 9) hx hb hts hi5 hown hK hP 0 ps_0 rfl 4 (by decide) wd2 (fun _ h9 => h9) rfl dX5_startTrial_5 ?_
  refine rwVcs (w1 := fun _ : Unit => ps cI cC cW h (w5 Y (Y 4).2.1 (Y 4).2.2) S q V z U y I) ps_p54 (fun _ => ps_q54) CF (c_X4_copyFrom l D cI cC cW t _ _ _ _ _ _ _) (cwV 1 hts gX5_startTrial_X4_copyFrom rfl rfl rfl (by decide +kernel) ⟨Nat.le_of_ble_eq_true rfl, Nat.le_of_ble_eq_true rfl⟩) hP hD hK hX hS hA 0 3 rfl rfl rfl hl.1 rfl (Nat.le_of_ble_eq_true rfl) dX5_startTrial_8 ⟨Nat.zero_le _, Nat.zero_le _⟩ (fun _ H locs _ hP hD hS => ?_)
  exact rw_vret _ hx hb hr hP hD hS (rfl) dX5_startTrial_11 hlocks

def sp_X5_endTrial (Y : Nat → va_H) (S : Nat → Int32) (q : Nat → Int32) (V : Nat → Int32) (z : Int32) (U : Nat → Int32) (y : Int32) (I : Nat → Int32) (x1 : Int32) : Int32 × ((Nat → va_H) × (Nat → Int32)) :=
  if x1 < 0 then ((x1, (Y, I))) else (let k5_1 : ((Nat → va_H) × (Nat → Int32)) := sp_X5_keepTrial Y S q V z U y I; let Y2 : Nat → va_H := k5_1.1; let I3 : Nat → Int32 := k5_1.2; (x1, (Y2, I3)))
set_option maxHeartbeats 4000000 in
set_option maxRecDepth 100000 in
theorem c_X5_endTrial (l : Launch) (D : va_G) (cI cC cW : ClassId) (t : Nat → Nat) (h : Nat → Nat) (sz : Nat) (Y : Nat → va_H) (S : Nat → Int32) (q : Nat → Int32) (V : Nat → Int32) (z : Int32) (U : Nat → Int32) (y : Int32) (I : Nat → Int32) (x1 : Int32) (hst : 0 ≤ (I 0).toInt) : Met l yX5_endTrial wsX5_endTrial ({ frames := 2, cells := 0, slots := 0, locals := 43 }) (va_Pc [.ref (h 0), .int x1] (rwP D (tyL cI cC cW) (ps cI cC cW h Y S q V z U y I) t sz)) (va_Qi (fun (r : Int32) (u : ((Nat → va_H) × (Nat → Int32))) => (r, u) = sp_X5_endTrial Y S q V z U y I x1) (fun u => rwB D (va_A (ps cI cC cW h Y S q V z U y I) sz) (ps cI cC cW h u.1 S q V z U y u.2)) (va_A (ps cI cC cW h Y S q V z U y I) sz)) 0 0 (va_A (ps cI cC cW h Y S q V z U y I) sz) := by
  refine Met.ofW (cc := cX5_endTrial) (maxL := 2) (ret := (some .int)) (by decide) rfl ?_
  intro p e s m args below meth c s₁ B hml hv
  obtain ⟨rfl, hsz, hP, hK, hD0, hX⟩ := hv
  have hx := B.exec
  have hb := B.bytes
  have hr := B.returns
  have hts := atoms_spec (ws := wsX5_endTrial) B.pre
  have hown : s.vm.findClass RX5 = some m.cls := findClass_of_methodNamed B.named
  have hlocks := B.notSynchronized
  subst hsz
  have hD := hD0.self (sz := s.heap.size)
  generalize hAe : va_A (ps cI cC cW h Y S q V z U y I) s.heap.size = A at hD hX ⊢
  have hA : ∀ q : Nat, s.heap.size ≤ q → A q := fun q h => by rw [← hAe]; exact Or.inr h
  have hS : va_S A s.heap s.heap [] := va_S.rf
  have CF : CallFix p m c cX5_endTrial 2 s [.ref (h 0), .int x1].toArray wsX5_endTrial RX5 := ⟨hx, hb, hml, hown, hts⟩
  have hl := lv_entry ([.ref (h 0), .int x1]) (n := 2) (Nat.le_of_ble_eq_true rfl)
  rw [lg_entry_eq]
  generalize (lg_sl ([.ref (h 0), .int x1]) ++ List.replicate (2 - (lg_sl ([.ref (h 0), .int x1])).length) Slot.unset).toArray = ls at hl ⊢
  have hl : lv_has ls 2 [(0, .ref (h 0)), (1, .int x1)] := hl
  refine lv_iload_n hx hb dX5_endTrial_0 rfl (lv_at hl 1 rfl) ?_
  refine lv_if_lt (tgt := 8) hx hb dX5_endTrial_1 (by decide) (fun c1 => ?_) (fun c1 => ?_)
  · refine lv_iload_n hx hb dX5_endTrial_8 rfl (lv_at hl 1 rfl) ?_
    exact rw_ret (_, _) hx hb hr hP hD hS (Eq.trans (if_pos c1) (rfl)) dX5_endTrial_9 hlocks
  · refine lv_aload_n hx hb dX5_endTrial_4 rfl (lv_at hl 0 rfl) ?_
    refine rwVv CF (c_X5_keepTrial l D cI cC cW t _ _ _ _ _ _ _ _ _ _  (by assumption)) (cwV 0 hts gX5_endTrial_X5_keepTrial rfl rfl rfl (by decide +kernel) ⟨Nat.le_of_ble_eq_true rfl, Nat.le_of_ble_eq_true rfl⟩) hP hD hK hX hS hA 0 4 ps_0 rfl rfl hl.1 rfl (Nat.le_of_ble_eq_true rfl) dX5_endTrial_5 ⟨Nat.zero_le _, Nat.zero_le _⟩ (fun H locs hP hD hS => ?_)
    refine lv_iload_n hx hb dX5_endTrial_8 rfl (lv_at hl 1 rfl) ?_
    exact rw_ret (_, _) hx hb hr hP hD hS (Eq.trans (if_neg c1) (rfl)) dX5_endTrial_9 hlocks

def sp_X5_good (Y : Nat → va_H) (S : Nat → Int32) (q : Nat → Int32) (V : Nat → Int32) (z : Int32) (U : Nat → Int32) (y : Int32) (I : Nat → Int32) (x1 x2 : Int32) : Int32 × ((Nat → va_H) × (Nat → Int32)) :=
  let k1_1 : Nat → va_H := sp_X5_startTrial Y S q V z U y I; let k11_2 : Int32 × ((Nat → Int32) × (Nat → Int32)) := sp_X4_addGood (k1_1 5).2.1 (k1_1 5).2.2 x1 x2; let Y3 : Nat → va_H := w5 k1_1 k11_2.2.1 k11_2.2.2; let k14_4 : Int32 × ((Nat → va_H) × (Nat → Int32)) := sp_X5_endTrial Y3 S q V z U y I k11_2.1; let Y5 : Nat → va_H := k14_4.2.1; let I6 : Nat → Int32 := k14_4.2.2; (k14_4.1, (Y5, I6))
set_option maxHeartbeats 4000000 in
set_option maxRecDepth 100000 in
theorem c_X5_good (l : Launch) (D : va_G) (cI cC cW : ClassId) (t : Nat → Nat) (h : Nat → Nat) (sz : Nat) (Y : Nat → va_H) (S : Nat → Int32) (q : Nat → Int32) (V : Nat → Int32) (z : Int32) (U : Nat → Int32) (y : Int32) (I : Nat → Int32) (x1 x2 : Int32) (hsf : sfN (Y 4).2.1) (hst : 0 ≤ (I 0).toInt) : Met l yX5_good wsX5_good ({ frames := 4, cells := 0, slots := 0, locals := 80 }) (va_Pc [.ref (h 0), .int x1, .int x2] (rwP D (tyL cI cC cW) (ps cI cC cW h Y S q V z U y I) t sz)) (va_Qi (fun (r : Int32) (u : ((Nat → va_H) × (Nat → Int32))) => (r, u) = sp_X5_good Y S q V z U y I x1 x2) (fun u => rwB D (va_A (ps cI cC cW h Y S q V z U y I) sz) (ps cI cC cW h u.1 S q V z U y u.2)) (va_A (ps cI cC cW h Y S q V z U y I) sz)) 0 0 (va_A (ps cI cC cW h Y S q V z U y I) sz) := by
  refine Met.ofW (cc := cX5_good) (maxL := 3) (ret := (some .int)) (by decide) rfl ?_
  intro p e s m args below meth c s₁ B hml hv
  obtain ⟨rfl, hsz, hP, hK, hD0, hX⟩ := hv
  have hx := B.exec
  have hb := B.bytes
  have hr := B.returns
  have hts := atoms_spec (ws := wsX5_good) B.pre
  have hown : s.vm.findClass RX5 = some m.cls := findClass_of_methodNamed B.named
  have hlocks := B.notSynchronized
  subst hsz
  have hD := hD0.self (sz := s.heap.size)
  generalize hAe : va_A (ps cI cC cW h Y S q V z U y I) s.heap.size = A at hD hX ⊢
  have hA : ∀ q : Nat, s.heap.size ≤ q → A q := fun q h => by rw [← hAe]; exact Or.inr h
  have hS : va_S A s.heap s.heap [] := va_S.rf
  have wd1 : (Cond.fieldLink RX5 37 "PickSlots" "trial" "LPickSlots$Warehouse;").before [.ref (h 0), .int x1, .int x2].toArray s = true := hts _ (List.mem_of_getElem? (i := 1) rfl)
  have hi5 : ∀ w ∈ wsX50, w ∈ wsX5_good := fun w h => List.mem_cons_of_mem _ (List.mem_append_left _ (List.mem_append_left _ (List.mem_append_right _ (h))))
  have CF : CallFix p m c cX5_good 3 s [.ref (h 0), .int x1, .int x2].toArray wsX5_good RX5 := ⟨hx, hb, hml, hown, hts⟩
  have hl := lv_entry ([.ref (h 0), .int x1, .int x2]) (n := 3) (Nat.le_of_ble_eq_true rfl)
  rw [lg_entry_eq]
  generalize (lg_sl ([.ref (h 0), .int x1, .int x2]) ++ List.replicate (3 - (lg_sl ([.ref (h 0), .int x1, .int x2])).length) Slot.unset).toArray = ls at hl ⊢
  have hl : lv_has ls 3 [(0, .ref (h 0)), (1, .int x1), (2, .int x2)] := hl
  refine lv_aload_n hx hb dX5_good_0 rfl (lv_at hl 0 rfl) ?_
  refine rwVv CF (c_X5_startTrial l D cI cC cW t _ _ _ _ _ _ _ _ _ _  ) (cwV 0 hts gX5_good_X5_startTrial rfl rfl rfl (by decide +kernel) ⟨Nat.le_of_ble_eq_true rfl, Nat.le_of_ble_eq_true rfl⟩) hP hD hK hX hS hA 0 4 ps_0 rfl rfl hl.1 rfl (Nat.le_of_ble_eq_true rfl) dX5_good_1 ⟨Nat.zero_le _, Nat.zero_le _⟩ (fun H locs hP hD hS => ?_)
  refine lv_aload_n hx hb dX5_good_4 rfl (lv_at hl 0 rfl) ?_
  refine lv_aload_n hx hb dX5_good_5 rfl (lv_at hl 0 rfl) ?_
  refine va_get (D := D) (ci := 4) (C := RX5) (T := TX5) (N := 9) hx hb hts hi5 hown hK hP 0 ps_0 rfl 5 (by decide) wd1 (fun _ h9 => h9) rfl dX5_good_6 ?_
  refine lv_iload_n hx hb dX5_good_9 rfl (lv_at hl 1 rfl) ?_
  refine lv_iload_n hx hb dX5_good_10 rfl (lv_at hl 2 rfl) ?_
  refine rwVs ps_p5 ps_q5 CF (c_X4_addGood l D cI cC cW t _ _ _ _ _ _ (hsf)) (cwV 2 hts gX5_good_X4_addGood rfl rfl rfl (by decide +kernel) ⟨Nat.le_of_ble_eq_true rfl, Nat.le_of_ble_eq_true rfl⟩) hP hD hK hX hS hA 0 3 wg_0 rfl rfl hl.1 rfl (Nat.le_of_ble_eq_true rfl) dX5_good_11 ⟨Nat.zero_le _, Nat.zero_le _⟩ (fun H locs hP hD hS => ?_)
  refine rwV CF (c_X5_endTrial l D cI cC cW t _ _ _ _ _ _ _ _ _ _ _ (hst)) (cwV 1 hts gX5_good_X5_endTrial rfl rfl rfl (by decide +kernel) ⟨Nat.le_of_ble_eq_true rfl, Nat.le_of_ble_eq_true rfl⟩) hP hD hK hX hS hA 0 4 ps_0 rfl rfl hl.1 rfl (Nat.le_of_ble_eq_true rfl) dX5_good_14 ⟨Nat.zero_le _, Nat.zero_le _⟩ (fun H locs hP hD hS => ?_)
  exact rw_ret (_, _) hx hb hr hP hD hS (rfl) dX5_good_17 hlocks

def sp_X5_demand (Y : Nat → va_H) (S : Nat → Int32) (q : Nat → Int32) (V : Nat → Int32) (z : Int32) (U : Nat → Int32) (y : Int32) (I : Nat → Int32) (x1 x2 x3 : Int32) : Int32 × ((Nat → va_H) × (Nat → Int32)) :=
  let k1_1 : Nat → va_H := sp_X5_startTrial Y S q V z U y I; let k12_2 : Int32 × ((Nat → Int32) × (Nat → Int32)) := sp_X4_changeDemand (k1_1 5).2.1 (k1_1 5).2.2 x1 x2 x3; let Y3 : Nat → va_H := w5 k1_1 k12_2.2.1 k12_2.2.2; let k15_4 : Int32 × ((Nat → va_H) × (Nat → Int32)) := sp_X5_endTrial Y3 S q V z U y I k12_2.1; let Y5 : Nat → va_H := k15_4.2.1; let I6 : Nat → Int32 := k15_4.2.2; (k15_4.1, (Y5, I6))
set_option maxHeartbeats 4000000 in
set_option maxRecDepth 100000 in
theorem c_X5_demand (l : Launch) (D : va_G) (cI cC cW : ClassId) (t : Nat → Nat) (h : Nat → Nat) (sz : Nat) (Y : Nat → va_H) (S : Nat → Int32) (q : Nat → Int32) (V : Nat → Int32) (z : Int32) (U : Nat → Int32) (y : Int32) (I : Nat → Int32) (x1 x2 x3 : Int32) (hsf : sfN (Y 4).2.1) (hst : 0 ≤ (I 0).toInt) : Met l yX5_demand wsX5_demand ({ frames := 4, cells := 0, slots := 0, locals := 80 }) (va_Pc [.ref (h 0), .int x1, .int x2, .int x3] (rwP D (tyL cI cC cW) (ps cI cC cW h Y S q V z U y I) t sz)) (va_Qi (fun (r : Int32) (u : ((Nat → va_H) × (Nat → Int32))) => (r, u) = sp_X5_demand Y S q V z U y I x1 x2 x3) (fun u => rwB D (va_A (ps cI cC cW h Y S q V z U y I) sz) (ps cI cC cW h u.1 S q V z U y u.2)) (va_A (ps cI cC cW h Y S q V z U y I) sz)) 0 0 (va_A (ps cI cC cW h Y S q V z U y I) sz) := by
  refine Met.ofW (cc := cX5_demand) (maxL := 4) (ret := (some .int)) (by decide) rfl ?_
  intro p e s m args below meth c s₁ B hml hv
  obtain ⟨rfl, hsz, hP, hK, hD0, hX⟩ := hv
  have hx := B.exec
  have hb := B.bytes
  have hr := B.returns
  have hts := atoms_spec (ws := wsX5_demand) B.pre
  have hown : s.vm.findClass RX5 = some m.cls := findClass_of_methodNamed B.named
  have hlocks := B.notSynchronized
  subst hsz
  have hD := hD0.self (sz := s.heap.size)
  generalize hAe : va_A (ps cI cC cW h Y S q V z U y I) s.heap.size = A at hD hX ⊢
  have hA : ∀ q : Nat, s.heap.size ≤ q → A q := fun q h => by rw [← hAe]; exact Or.inr h
  have hS : va_S A s.heap s.heap [] := va_S.rf
  have wd1 : (Cond.fieldLink RX5 37 "PickSlots" "trial" "LPickSlots$Warehouse;").before [.ref (h 0), .int x1, .int x2, .int x3].toArray s = true := hts _ (List.mem_of_getElem? (i := 1) rfl)
  have hi5 : ∀ w ∈ wsX50, w ∈ wsX5_demand := fun w h => List.mem_cons_of_mem _ (List.mem_append_left _ (List.mem_append_left _ (List.mem_append_right _ (h))))
  have CF : CallFix p m c cX5_demand 4 s [.ref (h 0), .int x1, .int x2, .int x3].toArray wsX5_demand RX5 := ⟨hx, hb, hml, hown, hts⟩
  have hl := lv_entry ([.ref (h 0), .int x1, .int x2, .int x3]) (n := 4) (Nat.le_of_ble_eq_true rfl)
  rw [lg_entry_eq]
  generalize (lg_sl ([.ref (h 0), .int x1, .int x2, .int x3]) ++ List.replicate (4 - (lg_sl ([.ref (h 0), .int x1, .int x2, .int x3])).length) Slot.unset).toArray = ls at hl ⊢
  have hl : lv_has ls 4 [(0, .ref (h 0)), (1, .int x1), (2, .int x2), (3, .int x3)] := hl
  refine lv_aload_n hx hb dX5_demand_0 rfl (lv_at hl 0 rfl) ?_
  refine rwVv CF (c_X5_startTrial l D cI cC cW t _ _ _ _ _ _ _ _ _ _  ) (cwV 0 hts gX5_demand_X5_startTrial rfl rfl rfl (by decide +kernel) ⟨Nat.le_of_ble_eq_true rfl, Nat.le_of_ble_eq_true rfl⟩) hP hD hK hX hS hA 0 4 ps_0 rfl rfl hl.1 rfl (Nat.le_of_ble_eq_true rfl) dX5_demand_1 ⟨Nat.zero_le _, Nat.zero_le _⟩ (fun H locs hP hD hS => ?_)
  refine lv_aload_n hx hb dX5_demand_4 rfl (lv_at hl 0 rfl) ?_
  refine lv_aload_n hx hb dX5_demand_5 rfl (lv_at hl 0 rfl) ?_
  refine va_get (D := D) (ci := 4) (C := RX5) (T := TX5) (N := 9) hx hb hts hi5 hown hK hP 0 ps_0 rfl 5 (by decide) wd1 (fun _ h9 => h9) rfl dX5_demand_6 ?_
  refine lv_iload_n hx hb dX5_demand_9 rfl (lv_at hl 1 rfl) ?_
  refine lv_iload_n hx hb dX5_demand_10 rfl (lv_at hl 2 rfl) ?_
  refine lv_iload_n hx hb dX5_demand_11 rfl (lv_at hl 3 rfl) ?_
  refine rwVs ps_p5 ps_q5 CF (c_X4_changeDemand l D cI cC cW t _ _ _ _ _ _ _ (hsf)) (cwV 3 hts gX5_demand_X4_changeDemand rfl rfl rfl (by decide +kernel) ⟨Nat.le_of_ble_eq_true rfl, Nat.le_of_ble_eq_true rfl⟩) hP hD hK hX hS hA 0 3 wg_0 rfl rfl hl.1 rfl (Nat.le_of_ble_eq_true rfl) dX5_demand_12 ⟨Nat.zero_le _, Nat.zero_le _⟩ (fun H locs hP hD hS => ?_)
  refine rwV CF (c_X5_endTrial l D cI cC cW t _ _ _ _ _ _ _ _ _ _ _ (hst)) (cwV 1 hts gX5_demand_X5_endTrial rfl rfl rfl (by decide +kernel) ⟨Nat.le_of_ble_eq_true rfl, Nat.le_of_ble_eq_true rfl⟩) hP hD hK hX hS hA 0 4 ps_0 rfl rfl hl.1 rfl (Nat.le_of_ble_eq_true rfl) dX5_demand_15 ⟨Nat.zero_le _, Nat.zero_le _⟩ (fun H locs hP hD hS => ?_)
  exact rw_ret (_, _) hx hb hr hP hD hS (rfl) dX5_demand_18 hlocks

def sp_X5_deliver (Y : Nat → va_H) (S : Nat → Int32) (q : Nat → Int32) (V : Nat → Int32) (z : Int32) (U : Nat → Int32) (y : Int32) (I : Nat → Int32) (x1 x2 : Int32) : Int32 × ((Nat → va_H) × (Nat → Int32)) :=
  let k1_1 : Nat → va_H := sp_X5_startTrial Y S q V z U y I; let k11_2 : Int32 × ((Nat → Int32) × (Nat → Int32)) := sp_X4_addToStore (k1_1 5).2.1 (k1_1 5).2.2 x1 x2; let Y3 : Nat → va_H := w5 k1_1 k11_2.2.1 k11_2.2.2; let k14_4 : Int32 × ((Nat → va_H) × (Nat → Int32)) := sp_X5_endTrial Y3 S q V z U y I k11_2.1; let Y5 : Nat → va_H := k14_4.2.1; let I6 : Nat → Int32 := k14_4.2.2; (k14_4.1, (Y5, I6))
set_option maxHeartbeats 4000000 in
set_option maxRecDepth 100000 in
theorem c_X5_deliver (l : Launch) (D : va_G) (cI cC cW : ClassId) (t : Nat → Nat) (h : Nat → Nat) (sz : Nat) (Y : Nat → va_H) (S : Nat → Int32) (q : Nat → Int32) (V : Nat → Int32) (z : Int32) (U : Nat → Int32) (y : Int32) (I : Nat → Int32) (x1 x2 : Int32) (hsf : sfN (Y 4).2.1) (hst : 0 ≤ (I 0).toInt) : Met l yX5_deliver wsX5_deliver ({ frames := 4, cells := 0, slots := 0, locals := 80 }) (va_Pc [.ref (h 0), .int x1, .int x2] (rwP D (tyL cI cC cW) (ps cI cC cW h Y S q V z U y I) t sz)) (va_Qi (fun (r : Int32) (u : ((Nat → va_H) × (Nat → Int32))) => (r, u) = sp_X5_deliver Y S q V z U y I x1 x2) (fun u => rwB D (va_A (ps cI cC cW h Y S q V z U y I) sz) (ps cI cC cW h u.1 S q V z U y u.2)) (va_A (ps cI cC cW h Y S q V z U y I) sz)) 0 0 (va_A (ps cI cC cW h Y S q V z U y I) sz) := by
  refine Met.ofW (cc := cX5_deliver) (maxL := 3) (ret := (some .int)) (by decide) rfl ?_
  intro p e s m args below meth c s₁ B hml hv
  obtain ⟨rfl, hsz, hP, hK, hD0, hX⟩ := hv
  have hx := B.exec
  have hb := B.bytes
  have hr := B.returns
  have hts := atoms_spec (ws := wsX5_deliver) B.pre
  have hown : s.vm.findClass RX5 = some m.cls := findClass_of_methodNamed B.named
  have hlocks := B.notSynchronized
  subst hsz
  have hD := hD0.self (sz := s.heap.size)
  generalize hAe : va_A (ps cI cC cW h Y S q V z U y I) s.heap.size = A at hD hX ⊢
  have hA : ∀ q : Nat, s.heap.size ≤ q → A q := fun q h => by rw [← hAe]; exact Or.inr h
  have hS : va_S A s.heap s.heap [] := va_S.rf
  have wd1 : (Cond.fieldLink RX5 37 "PickSlots" "trial" "LPickSlots$Warehouse;").before [.ref (h 0), .int x1, .int x2].toArray s = true := hts _ (List.mem_of_getElem? (i := 1) rfl)
  have hi5 : ∀ w ∈ wsX50, w ∈ wsX5_deliver := fun w h => List.mem_cons_of_mem _ (List.mem_append_left _ (List.mem_append_left _ (List.mem_append_right _ (h))))
  have CF : CallFix p m c cX5_deliver 3 s [.ref (h 0), .int x1, .int x2].toArray wsX5_deliver RX5 := ⟨hx, hb, hml, hown, hts⟩
  have hl := lv_entry ([.ref (h 0), .int x1, .int x2]) (n := 3) (Nat.le_of_ble_eq_true rfl)
  rw [lg_entry_eq]
  generalize (lg_sl ([.ref (h 0), .int x1, .int x2]) ++ List.replicate (3 - (lg_sl ([.ref (h 0), .int x1, .int x2])).length) Slot.unset).toArray = ls at hl ⊢
  have hl : lv_has ls 3 [(0, .ref (h 0)), (1, .int x1), (2, .int x2)] := hl
  refine lv_aload_n hx hb dX5_deliver_0 rfl (lv_at hl 0 rfl) ?_
  refine rwVv CF (c_X5_startTrial l D cI cC cW t _ _ _ _ _ _ _ _ _ _  ) (cwV 0 hts gX5_deliver_X5_startTrial rfl rfl rfl (by decide +kernel) ⟨Nat.le_of_ble_eq_true rfl, Nat.le_of_ble_eq_true rfl⟩) hP hD hK hX hS hA 0 4 ps_0 rfl rfl hl.1 rfl (Nat.le_of_ble_eq_true rfl) dX5_deliver_1 ⟨Nat.zero_le _, Nat.zero_le _⟩ (fun H locs hP hD hS => ?_)
  refine lv_aload_n hx hb dX5_deliver_4 rfl (lv_at hl 0 rfl) ?_
  refine lv_aload_n hx hb dX5_deliver_5 rfl (lv_at hl 0 rfl) ?_
  refine va_get (D := D) (ci := 4) (C := RX5) (T := TX5) (N := 9) hx hb hts hi5 hown hK hP 0 ps_0 rfl 5 (by decide) wd1 (fun _ h9 => h9) rfl dX5_deliver_6 ?_
  refine lv_iload_n hx hb dX5_deliver_9 rfl (lv_at hl 1 rfl) ?_
  refine lv_iload_n hx hb dX5_deliver_10 rfl (lv_at hl 2 rfl) ?_
  refine rwVs ps_p5 ps_q5 CF (c_X4_addToStore l D cI cC cW t _ _ _ _ _ _ (hsf)) (cwV 2 hts gX5_deliver_X4_addToStore rfl rfl rfl (by decide +kernel) ⟨Nat.le_of_ble_eq_true rfl, Nat.le_of_ble_eq_true rfl⟩) hP hD hK hX hS hA 0 3 wg_0 rfl rfl hl.1 rfl (Nat.le_of_ble_eq_true rfl) dX5_deliver_11 ⟨Nat.zero_le _, Nat.zero_le _⟩ (fun H locs hP hD hS => ?_)
  refine rwV CF (c_X5_endTrial l D cI cC cW t _ _ _ _ _ _ _ _ _ _ _ (hst)) (cwV 1 hts gX5_deliver_X5_endTrial rfl rfl rfl (by decide +kernel) ⟨Nat.le_of_ble_eq_true rfl, Nat.le_of_ble_eq_true rfl⟩) hP hD hK hX hS hA 0 4 ps_0 rfl rfl hl.1 rfl (Nat.le_of_ble_eq_true rfl) dX5_deliver_14 ⟨Nat.zero_le _, Nat.zero_le _⟩ (fun H locs hP hD hS => ?_)
  exact rw_ret (_, _) hx hb hr hP hD hS (rfl) dX5_deliver_17 hlocks

def sp_X5_place (Y : Nat → va_H) (S : Nat → Int32) (q : Nat → Int32) (V : Nat → Int32) (z : Int32) (U : Nat → Int32) (y : Int32) (I : Nat → Int32) (x1 x2 : Int32) : Int32 × ((Nat → va_H) × (Nat → Int32)) :=
  let k1_1 : Nat → va_H := sp_X5_startTrial Y S q V z U y I; let k11_2 : Int32 × ((Nat → Int32) × (Nat → Int32)) := sp_X4_putIntoSlot (k1_1 5).2.1 (k1_1 5).2.2 x1 x2; let Y3 : Nat → va_H := w5 k1_1 k11_2.2.1 k11_2.2.2; let k14_4 : Int32 × ((Nat → va_H) × (Nat → Int32)) := sp_X5_endTrial Y3 S q V z U y I k11_2.1; let Y5 : Nat → va_H := k14_4.2.1; let I6 : Nat → Int32 := k14_4.2.2; (k14_4.1, (Y5, I6))
set_option maxHeartbeats 4000000 in
set_option maxRecDepth 100000 in
theorem c_X5_place (l : Launch) (D : va_G) (cI cC cW : ClassId) (t : Nat → Nat) (h : Nat → Nat) (sz : Nat) (Y : Nat → va_H) (S : Nat → Int32) (q : Nat → Int32) (V : Nat → Int32) (z : Int32) (U : Nat → Int32) (y : Int32) (I : Nat → Int32) (x1 x2 : Int32) (hsf : sfN (Y 4).2.1) (hst : 0 ≤ (I 0).toInt) : Met l yX5_place wsX5_place ({ frames := 4, cells := 0, slots := 0, locals := 80 }) (va_Pc [.ref (h 0), .int x1, .int x2] (rwP D (tyL cI cC cW) (ps cI cC cW h Y S q V z U y I) t sz)) (va_Qi (fun (r : Int32) (u : ((Nat → va_H) × (Nat → Int32))) => (r, u) = sp_X5_place Y S q V z U y I x1 x2) (fun u => rwB D (va_A (ps cI cC cW h Y S q V z U y I) sz) (ps cI cC cW h u.1 S q V z U y u.2)) (va_A (ps cI cC cW h Y S q V z U y I) sz)) 0 0 (va_A (ps cI cC cW h Y S q V z U y I) sz) := by
  refine Met.ofW (cc := cX5_place) (maxL := 3) (ret := (some .int)) (by decide) rfl ?_
  intro p e s m args below meth c s₁ B hml hv
  obtain ⟨rfl, hsz, hP, hK, hD0, hX⟩ := hv
  have hx := B.exec
  have hb := B.bytes
  have hr := B.returns
  have hts := atoms_spec (ws := wsX5_place) B.pre
  have hown : s.vm.findClass RX5 = some m.cls := findClass_of_methodNamed B.named
  have hlocks := B.notSynchronized
  subst hsz
  have hD := hD0.self (sz := s.heap.size)
  generalize hAe : va_A (ps cI cC cW h Y S q V z U y I) s.heap.size = A at hD hX ⊢
  have hA : ∀ q : Nat, s.heap.size ≤ q → A q := fun q h => by rw [← hAe]; exact Or.inr h
  have hS : va_S A s.heap s.heap [] := va_S.rf
  have wd1 : (Cond.fieldLink RX5 37 "PickSlots" "trial" "LPickSlots$Warehouse;").before [.ref (h 0), .int x1, .int x2].toArray s = true := hts _ (List.mem_of_getElem? (i := 1) rfl)
  have hi5 : ∀ w ∈ wsX50, w ∈ wsX5_place := fun w h => List.mem_cons_of_mem _ (List.mem_append_left _ (List.mem_append_left _ (List.mem_append_right _ (h))))
  have CF : CallFix p m c cX5_place 3 s [.ref (h 0), .int x1, .int x2].toArray wsX5_place RX5 := ⟨hx, hb, hml, hown, hts⟩
  have hl := lv_entry ([.ref (h 0), .int x1, .int x2]) (n := 3) (Nat.le_of_ble_eq_true rfl)
  rw [lg_entry_eq]
  generalize (lg_sl ([.ref (h 0), .int x1, .int x2]) ++ List.replicate (3 - (lg_sl ([.ref (h 0), .int x1, .int x2])).length) Slot.unset).toArray = ls at hl ⊢
  have hl : lv_has ls 3 [(0, .ref (h 0)), (1, .int x1), (2, .int x2)] := hl
  refine lv_aload_n hx hb dX5_place_0 rfl (lv_at hl 0 rfl) ?_
  refine rwVv CF (c_X5_startTrial l D cI cC cW t _ _ _ _ _ _ _ _ _ _  ) (cwV 0 hts gX5_place_X5_startTrial rfl rfl rfl (by decide +kernel) ⟨Nat.le_of_ble_eq_true rfl, Nat.le_of_ble_eq_true rfl⟩) hP hD hK hX hS hA 0 4 ps_0 rfl rfl hl.1 rfl (Nat.le_of_ble_eq_true rfl) dX5_place_1 ⟨Nat.zero_le _, Nat.zero_le _⟩ (fun H locs hP hD hS => ?_)
  refine lv_aload_n hx hb dX5_place_4 rfl (lv_at hl 0 rfl) ?_
  refine lv_aload_n hx hb dX5_place_5 rfl (lv_at hl 0 rfl) ?_
  refine va_get (D := D) (ci := 4) (C := RX5) (T := TX5) (N := 9) hx hb hts hi5 hown hK hP 0 ps_0 rfl 5 (by decide) wd1 (fun _ h9 => h9) rfl dX5_place_6 ?_
  refine lv_iload_n hx hb dX5_place_9 rfl (lv_at hl 1 rfl) ?_
  refine lv_iload_n hx hb dX5_place_10 rfl (lv_at hl 2 rfl) ?_
  refine rwVs ps_p5 ps_q5 CF (c_X4_putIntoSlot l D cI cC cW t _ _ _ _ _ _ (hsf)) (cwV 2 hts gX5_place_X4_putIntoSlot rfl rfl rfl (by decide +kernel) ⟨Nat.le_of_ble_eq_true rfl, Nat.le_of_ble_eq_true rfl⟩) hP hD hK hX hS hA 0 3 wg_0 rfl rfl hl.1 rfl (Nat.le_of_ble_eq_true rfl) dX5_place_11 ⟨Nat.zero_le _, Nat.zero_le _⟩ (fun H locs hP hD hS => ?_)
  refine rwV CF (c_X5_endTrial l D cI cC cW t _ _ _ _ _ _ _ _ _ _ _ (hst)) (cwV 1 hts gX5_place_X5_endTrial rfl rfl rfl (by decide +kernel) ⟨Nat.le_of_ble_eq_true rfl, Nat.le_of_ble_eq_true rfl⟩) hP hD hK hX hS hA 0 4 ps_0 rfl rfl hl.1 rfl (Nat.le_of_ble_eq_true rfl) dX5_place_14 ⟨Nat.zero_le _, Nat.zero_le _⟩ (fun H locs hP hD hS => ?_)
  exact rw_ret (_, _) hx hb hr hP hD hS (rfl) dX5_place_17 hlocks

def sp_X5_take (Y : Nat → va_H) (S : Nat → Int32) (q : Nat → Int32) (V : Nat → Int32) (z : Int32) (U : Nat → Int32) (y : Int32) (I : Nat → Int32) (x1 : Int32) : Int32 × ((Nat → va_H) × (Nat → Int32)) :=
  let k1_1 : Nat → va_H := sp_X5_startTrial Y S q V z U y I; let k10_2 : Int32 × ((Nat → Int32) × (Nat → Int32)) := sp_X4_takeOutOfSlot (k1_1 5).2.1 (k1_1 5).2.2 x1; let Y3 : Nat → va_H := w5 k1_1 k10_2.2.1 k10_2.2.2; let k13_4 : Int32 × ((Nat → va_H) × (Nat → Int32)) := sp_X5_endTrial Y3 S q V z U y I k10_2.1; let Y5 : Nat → va_H := k13_4.2.1; let I6 : Nat → Int32 := k13_4.2.2; (k13_4.1, (Y5, I6))
set_option maxHeartbeats 4000000 in
set_option maxRecDepth 100000 in
theorem c_X5_take (l : Launch) (D : va_G) (cI cC cW : ClassId) (t : Nat → Nat) (h : Nat → Nat) (sz : Nat) (Y : Nat → va_H) (S : Nat → Int32) (q : Nat → Int32) (V : Nat → Int32) (z : Int32) (U : Nat → Int32) (y : Int32) (I : Nat → Int32) (x1 : Int32) (hsf : sfN (Y 4).2.1) (hst : 0 ≤ (I 0).toInt) : Met l yX5_take wsX5_take ({ frames := 4, cells := 0, slots := 0, locals := 80 }) (va_Pc [.ref (h 0), .int x1] (rwP D (tyL cI cC cW) (ps cI cC cW h Y S q V z U y I) t sz)) (va_Qi (fun (r : Int32) (u : ((Nat → va_H) × (Nat → Int32))) => (r, u) = sp_X5_take Y S q V z U y I x1) (fun u => rwB D (va_A (ps cI cC cW h Y S q V z U y I) sz) (ps cI cC cW h u.1 S q V z U y u.2)) (va_A (ps cI cC cW h Y S q V z U y I) sz)) 0 0 (va_A (ps cI cC cW h Y S q V z U y I) sz) := by
  refine Met.ofW (cc := cX5_take) (maxL := 2) (ret := (some .int)) (by decide) rfl ?_
  intro p e s m args below meth c s₁ B hml hv
  obtain ⟨rfl, hsz, hP, hK, hD0, hX⟩ := hv
  have hx := B.exec
  have hb := B.bytes
  have hr := B.returns
  have hts := atoms_spec (ws := wsX5_take) B.pre
  have hown : s.vm.findClass RX5 = some m.cls := findClass_of_methodNamed B.named
  have hlocks := B.notSynchronized
  subst hsz
  have hD := hD0.self (sz := s.heap.size)
  generalize hAe : va_A (ps cI cC cW h Y S q V z U y I) s.heap.size = A at hD hX ⊢
  have hA : ∀ q : Nat, s.heap.size ≤ q → A q := fun q h => by rw [← hAe]; exact Or.inr h
  have hS : va_S A s.heap s.heap [] := va_S.rf
  have wd1 : (Cond.fieldLink RX5 37 "PickSlots" "trial" "LPickSlots$Warehouse;").before [.ref (h 0), .int x1].toArray s = true := hts _ (List.mem_of_getElem? (i := 1) rfl)
  have hi5 : ∀ w ∈ wsX50, w ∈ wsX5_take := fun w h => List.mem_cons_of_mem _ (List.mem_append_left _ (List.mem_append_left _ (List.mem_append_right _ (h))))
  have CF : CallFix p m c cX5_take 2 s [.ref (h 0), .int x1].toArray wsX5_take RX5 := ⟨hx, hb, hml, hown, hts⟩
  have hl := lv_entry ([.ref (h 0), .int x1]) (n := 2) (Nat.le_of_ble_eq_true rfl)
  rw [lg_entry_eq]
  generalize (lg_sl ([.ref (h 0), .int x1]) ++ List.replicate (2 - (lg_sl ([.ref (h 0), .int x1])).length) Slot.unset).toArray = ls at hl ⊢
  have hl : lv_has ls 2 [(0, .ref (h 0)), (1, .int x1)] := hl
  refine lv_aload_n hx hb dX5_take_0 rfl (lv_at hl 0 rfl) ?_
  refine rwVv CF (c_X5_startTrial l D cI cC cW t _ _ _ _ _ _ _ _ _ _  ) (cwV 0 hts gX5_take_X5_startTrial rfl rfl rfl (by decide +kernel) ⟨Nat.le_of_ble_eq_true rfl, Nat.le_of_ble_eq_true rfl⟩) hP hD hK hX hS hA 0 4 ps_0 rfl rfl hl.1 rfl (Nat.le_of_ble_eq_true rfl) dX5_take_1 ⟨Nat.zero_le _, Nat.zero_le _⟩ (fun H locs hP hD hS => ?_)
  refine lv_aload_n hx hb dX5_take_4 rfl (lv_at hl 0 rfl) ?_
  refine lv_aload_n hx hb dX5_take_5 rfl (lv_at hl 0 rfl) ?_
  refine va_get (D := D) (ci := 4) (C := RX5) (T := TX5) (N := 9) hx hb hts hi5 hown hK hP 0 ps_0 rfl 5 (by decide) wd1 (fun _ h9 => h9) rfl dX5_take_6 ?_
  refine lv_iload_n hx hb dX5_take_9 rfl (lv_at hl 1 rfl) ?_
  refine rwVs ps_p5 ps_q5 CF (c_X4_takeOutOfSlot l D cI cC cW t _ _ _ _ _ (hsf)) (cwV 1 hts gX5_take_X4_takeOutOfSlot rfl rfl rfl (by decide +kernel) ⟨Nat.le_of_ble_eq_true rfl, Nat.le_of_ble_eq_true rfl⟩) hP hD hK hX hS hA 0 3 wg_0 rfl rfl hl.1 rfl (Nat.le_of_ble_eq_true rfl) dX5_take_10 ⟨Nat.zero_le _, Nat.zero_le _⟩ (fun H locs hP hD hS => ?_)
  refine rwV CF (c_X5_endTrial l D cI cC cW t _ _ _ _ _ _ _ _ _ _ _ (hst)) (cwV 1 hts gX5_take_X5_endTrial rfl rfl rfl (by decide +kernel) ⟨Nat.le_of_ble_eq_true rfl, Nat.le_of_ble_eq_true rfl⟩) hP hD hK hX hS hA 0 4 ps_0 rfl rfl hl.1 rfl (Nat.le_of_ble_eq_true rfl) dX5_take_13 ⟨Nat.zero_le _, Nat.zero_le _⟩ (fun H locs hP hD hS => ?_)
  exact rw_ret (_, _) hx hb hr hP hD hS (rfl) dX5_take_16 hlocks

def sp_X5_pick (Y : Nat → va_H) (S : Nat → Int32) (q : Nat → Int32) (V : Nat → Int32) (z : Int32) (U : Nat → Int32) (y : Int32) (I : Nat → Int32) (x1 x2 : Int32) : Int32 × ((Nat → va_H) × (Nat → Int32)) :=
  let k1_1 : Nat → va_H := sp_X5_startTrial Y S q V z U y I; let k11_2 : Int32 × ((Nat → Int32) × (Nat → Int32)) := sp_X4_pickUnits (k1_1 5).2.1 (k1_1 5).2.2 x1 x2; let Y3 : Nat → va_H := w5 k1_1 k11_2.2.1 k11_2.2.2; let k14_4 : Int32 × ((Nat → va_H) × (Nat → Int32)) := sp_X5_endTrial Y3 S q V z U y I k11_2.1; let Y5 : Nat → va_H := k14_4.2.1; let I6 : Nat → Int32 := k14_4.2.2; (k14_4.1, (Y5, I6))
set_option maxHeartbeats 4000000 in
set_option maxRecDepth 100000 in
theorem c_X5_pick (l : Launch) (D : va_G) (cI cC cW : ClassId) (t : Nat → Nat) (h : Nat → Nat) (sz : Nat) (Y : Nat → va_H) (S : Nat → Int32) (q : Nat → Int32) (V : Nat → Int32) (z : Int32) (U : Nat → Int32) (y : Int32) (I : Nat → Int32) (x1 x2 : Int32) (hsf : sfN (Y 4).2.1) (hst : 0 ≤ (I 0).toInt) : Met l yX5_pick wsX5_pick ({ frames := 4, cells := 0, slots := 0, locals := 80 }) (va_Pc [.ref (h 0), .int x1, .int x2] (rwP D (tyL cI cC cW) (ps cI cC cW h Y S q V z U y I) t sz)) (va_Qi (fun (r : Int32) (u : ((Nat → va_H) × (Nat → Int32))) => (r, u) = sp_X5_pick Y S q V z U y I x1 x2) (fun u => rwB D (va_A (ps cI cC cW h Y S q V z U y I) sz) (ps cI cC cW h u.1 S q V z U y u.2)) (va_A (ps cI cC cW h Y S q V z U y I) sz)) 0 0 (va_A (ps cI cC cW h Y S q V z U y I) sz) := by
  refine Met.ofW (cc := cX5_pick) (maxL := 3) (ret := (some .int)) (by decide) rfl ?_
  intro p e s m args below meth c s₁ B hml hv
  obtain ⟨rfl, hsz, hP, hK, hD0, hX⟩ := hv
  have hx := B.exec
  have hb := B.bytes
  have hr := B.returns
  have hts := atoms_spec (ws := wsX5_pick) B.pre
  have hown : s.vm.findClass RX5 = some m.cls := findClass_of_methodNamed B.named
  have hlocks := B.notSynchronized
  subst hsz
  have hD := hD0.self (sz := s.heap.size)
  generalize hAe : va_A (ps cI cC cW h Y S q V z U y I) s.heap.size = A at hD hX ⊢
  have hA : ∀ q : Nat, s.heap.size ≤ q → A q := fun q h => by rw [← hAe]; exact Or.inr h
  have hS : va_S A s.heap s.heap [] := va_S.rf
  have wd1 : (Cond.fieldLink RX5 37 "PickSlots" "trial" "LPickSlots$Warehouse;").before [.ref (h 0), .int x1, .int x2].toArray s = true := hts _ (List.mem_of_getElem? (i := 1) rfl)
  have hi5 : ∀ w ∈ wsX50, w ∈ wsX5_pick := fun w h => List.mem_cons_of_mem _ (List.mem_append_left _ (List.mem_append_left _ (List.mem_append_right _ (h))))
  have CF : CallFix p m c cX5_pick 3 s [.ref (h 0), .int x1, .int x2].toArray wsX5_pick RX5 := ⟨hx, hb, hml, hown, hts⟩
  have hl := lv_entry ([.ref (h 0), .int x1, .int x2]) (n := 3) (Nat.le_of_ble_eq_true rfl)
  rw [lg_entry_eq]
  generalize (lg_sl ([.ref (h 0), .int x1, .int x2]) ++ List.replicate (3 - (lg_sl ([.ref (h 0), .int x1, .int x2])).length) Slot.unset).toArray = ls at hl ⊢
  have hl : lv_has ls 3 [(0, .ref (h 0)), (1, .int x1), (2, .int x2)] := hl
  refine lv_aload_n hx hb dX5_pick_0 rfl (lv_at hl 0 rfl) ?_
  refine rwVv CF (c_X5_startTrial l D cI cC cW t _ _ _ _ _ _ _ _ _ _  ) (cwV 0 hts gX5_pick_X5_startTrial rfl rfl rfl (by decide +kernel) ⟨Nat.le_of_ble_eq_true rfl, Nat.le_of_ble_eq_true rfl⟩) hP hD hK hX hS hA 0 4 ps_0 rfl rfl hl.1 rfl (Nat.le_of_ble_eq_true rfl) dX5_pick_1 ⟨Nat.zero_le _, Nat.zero_le _⟩ (fun H locs hP hD hS => ?_)
  refine lv_aload_n hx hb dX5_pick_4 rfl (lv_at hl 0 rfl) ?_
  refine lv_aload_n hx hb dX5_pick_5 rfl (lv_at hl 0 rfl) ?_
  refine va_get (D := D) (ci := 4) (C := RX5) (T := TX5) (N := 9) hx hb hts hi5 hown hK hP 0 ps_0 rfl 5 (by decide) wd1 (fun _ h9 => h9) rfl dX5_pick_6 ?_
  refine lv_iload_n hx hb dX5_pick_9 rfl (lv_at hl 1 rfl) ?_
  refine lv_iload_n hx hb dX5_pick_10 rfl (lv_at hl 2 rfl) ?_
  refine rwVs ps_p5 ps_q5 CF (c_X4_pickUnits l D cI cC cW t _ _ _ _ _ _ (hsf)) (cwV 2 hts gX5_pick_X4_pickUnits rfl rfl rfl (by decide +kernel) ⟨Nat.le_of_ble_eq_true rfl, Nat.le_of_ble_eq_true rfl⟩) hP hD hK hX hS hA 0 3 wg_0 rfl rfl hl.1 rfl (Nat.le_of_ble_eq_true rfl) dX5_pick_11 ⟨Nat.zero_le _, Nat.zero_le _⟩ (fun H locs hP hD hS => ?_)
  refine rwV CF (c_X5_endTrial l D cI cC cW t _ _ _ _ _ _ _ _ _ _ _ (hst)) (cwV 1 hts gX5_pick_X5_endTrial rfl rfl rfl (by decide +kernel) ⟨Nat.le_of_ble_eq_true rfl, Nat.le_of_ble_eq_true rfl⟩) hP hD hK hX hS hA 0 4 ps_0 rfl rfl hl.1 rfl (Nat.le_of_ble_eq_true rfl) dX5_pick_14 ⟨Nat.zero_le _, Nat.zero_le _⟩ (fun H locs hP hD hS => ?_)
  exact rw_ret (_, _) hx hb hr hP hD hS (rfl) dX5_pick_17 hlocks

def sp_X5_refill (Y : Nat → va_H) (S : Nat → Int32) (q : Nat → Int32) (V : Nat → Int32) (z : Int32) (U : Nat → Int32) (y : Int32) (I : Nat → Int32) (x1 : Int32) : Int32 × ((Nat → va_H) × (Nat → Int32)) :=
  let k1_1 : Nat → va_H := sp_X5_startTrial Y S q V z U y I; let k10_2 : Int32 × ((Nat → Int32) × (Nat → Int32)) := sp_X4_refillSlot (k1_1 5).2.1 (k1_1 5).2.2 x1; let Y3 : Nat → va_H := w5 k1_1 k10_2.2.1 k10_2.2.2; let k13_4 : Int32 × ((Nat → va_H) × (Nat → Int32)) := sp_X5_endTrial Y3 S q V z U y I k10_2.1; let Y5 : Nat → va_H := k13_4.2.1; let I6 : Nat → Int32 := k13_4.2.2; (k13_4.1, (Y5, I6))
set_option maxHeartbeats 4000000 in
set_option maxRecDepth 100000 in
theorem c_X5_refill (l : Launch) (D : va_G) (cI cC cW : ClassId) (t : Nat → Nat) (h : Nat → Nat) (sz : Nat) (Y : Nat → va_H) (S : Nat → Int32) (q : Nat → Int32) (V : Nat → Int32) (z : Int32) (U : Nat → Int32) (y : Int32) (I : Nat → Int32) (x1 : Int32) (hsf : sfN (Y 4).2.1) (hst : 0 ≤ (I 0).toInt) : Met l yX5_refill wsX5_refill ({ frames := 4, cells := 0, slots := 0, locals := 80 }) (va_Pc [.ref (h 0), .int x1] (rwP D (tyL cI cC cW) (ps cI cC cW h Y S q V z U y I) t sz)) (va_Qi (fun (r : Int32) (u : ((Nat → va_H) × (Nat → Int32))) => (r, u) = sp_X5_refill Y S q V z U y I x1) (fun u => rwB D (va_A (ps cI cC cW h Y S q V z U y I) sz) (ps cI cC cW h u.1 S q V z U y u.2)) (va_A (ps cI cC cW h Y S q V z U y I) sz)) 0 0 (va_A (ps cI cC cW h Y S q V z U y I) sz) := by
  refine Met.ofW (cc := cX5_refill) (maxL := 2) (ret := (some .int)) (by decide) rfl ?_
  intro p e s m args below meth c s₁ B hml hv
  obtain ⟨rfl, hsz, hP, hK, hD0, hX⟩ := hv
  have hx := B.exec
  have hb := B.bytes
  have hr := B.returns
  have hts := atoms_spec (ws := wsX5_refill) B.pre
  have hown : s.vm.findClass RX5 = some m.cls := findClass_of_methodNamed B.named
  have hlocks := B.notSynchronized
  subst hsz
  have hD := hD0.self (sz := s.heap.size)
  generalize hAe : va_A (ps cI cC cW h Y S q V z U y I) s.heap.size = A at hD hX ⊢
  have hA : ∀ q : Nat, s.heap.size ≤ q → A q := fun q h => by rw [← hAe]; exact Or.inr h
  have hS : va_S A s.heap s.heap [] := va_S.rf
  have wd1 : (Cond.fieldLink RX5 37 "PickSlots" "trial" "LPickSlots$Warehouse;").before [.ref (h 0), .int x1].toArray s = true := hts _ (List.mem_of_getElem? (i := 1) rfl)
  have hi5 : ∀ w ∈ wsX50, w ∈ wsX5_refill := fun w h => List.mem_cons_of_mem _ (List.mem_append_left _ (List.mem_append_left _ (List.mem_append_right _ (h))))
  have CF : CallFix p m c cX5_refill 2 s [.ref (h 0), .int x1].toArray wsX5_refill RX5 := ⟨hx, hb, hml, hown, hts⟩
  have hl := lv_entry ([.ref (h 0), .int x1]) (n := 2) (Nat.le_of_ble_eq_true rfl)
  rw [lg_entry_eq]
  generalize (lg_sl ([.ref (h 0), .int x1]) ++ List.replicate (2 - (lg_sl ([.ref (h 0), .int x1])).length) Slot.unset).toArray = ls at hl ⊢
  have hl : lv_has ls 2 [(0, .ref (h 0)), (1, .int x1)] := hl
  refine lv_aload_n hx hb dX5_refill_0 rfl (lv_at hl 0 rfl) ?_
  refine rwVv CF (c_X5_startTrial l D cI cC cW t _ _ _ _ _ _ _ _ _ _  ) (cwV 0 hts gX5_refill_X5_startTrial rfl rfl rfl (by decide +kernel) ⟨Nat.le_of_ble_eq_true rfl, Nat.le_of_ble_eq_true rfl⟩) hP hD hK hX hS hA 0 4 ps_0 rfl rfl hl.1 rfl (Nat.le_of_ble_eq_true rfl) dX5_refill_1 ⟨Nat.zero_le _, Nat.zero_le _⟩ (fun H locs hP hD hS => ?_)
  refine lv_aload_n hx hb dX5_refill_4 rfl (lv_at hl 0 rfl) ?_
  refine lv_aload_n hx hb dX5_refill_5 rfl (lv_at hl 0 rfl) ?_
  refine va_get (D := D) (ci := 4) (C := RX5) (T := TX5) (N := 9) hx hb hts hi5 hown hK hP 0 ps_0 rfl 5 (by decide) wd1 (fun _ h9 => h9) rfl dX5_refill_6 ?_
  refine lv_iload_n hx hb dX5_refill_9 rfl (lv_at hl 1 rfl) ?_
  refine rwVs ps_p5 ps_q5 CF (c_X4_refillSlot l D cI cC cW t _ _ _ _ _ (hsf)) (cwV 1 hts gX5_refill_X4_refillSlot rfl rfl rfl (by decide +kernel) ⟨Nat.le_of_ble_eq_true rfl, Nat.le_of_ble_eq_true rfl⟩) hP hD hK hX hS hA 0 3 wg_0 rfl rfl hl.1 rfl (Nat.le_of_ble_eq_true rfl) dX5_refill_10 ⟨Nat.zero_le _, Nat.zero_le _⟩ (fun H locs hP hD hS => ?_)
  refine rwV CF (c_X5_endTrial l D cI cC cW t _ _ _ _ _ _ _ _ _ _ _ (hst)) (cwV 1 hts gX5_refill_X5_endTrial rfl rfl rfl (by decide +kernel) ⟨Nat.le_of_ble_eq_true rfl, Nat.le_of_ble_eq_true rfl⟩) hP hD hK hX hS hA 0 4 ps_0 rfl rfl hl.1 rfl (Nat.le_of_ble_eq_true rfl) dX5_refill_13 ⟨Nat.zero_le _, Nat.zero_le _⟩ (fun H locs hP hD hS => ?_)
  exact rw_ret (_, _) hx hb hr hP hD hS (rfl) dX5_refill_16 hlocks

def sp_X5_endWeek (Y : Nat → va_H) (S : Nat → Int32) (q : Nat → Int32) (V : Nat → Int32) (z : Int32) (U : Nat → Int32) (y : Int32) (I : Nat → Int32) : Int32 × ((Nat → va_H) × (Nat → Int32)) :=
  let k1_1 : Nat → va_H := sp_X5_startTrial Y S q V z U y I; let k9_2 : Int32 × ((Nat → Int32) × (Nat → Int32)) := sp_X4_finishWeek (k1_1 5).2.1 (k1_1 5).2.2; let Y3 : Nat → va_H := w5 k1_1 k9_2.2.1 k9_2.2.2; let k12_4 : Int32 × ((Nat → va_H) × (Nat → Int32)) := sp_X5_endTrial Y3 S q V z U y I k9_2.1; let Y5 : Nat → va_H := k12_4.2.1; let I6 : Nat → Int32 := k12_4.2.2; (k12_4.1, (Y5, I6))
set_option maxHeartbeats 4000000 in
set_option maxRecDepth 100000 in
theorem c_X5_endWeek (l : Launch) (D : va_G) (cI cC cW : ClassId) (t : Nat → Nat) (h : Nat → Nat) (sz : Nat) (Y : Nat → va_H) (S : Nat → Int32) (q : Nat → Int32) (V : Nat → Int32) (z : Int32) (U : Nat → Int32) (y : Int32) (I : Nat → Int32) (hsf : sfN (Y 4).2.1) (hst : 0 ≤ (I 0).toInt) : Met l yX5_endWeek wsX5_endWeek ({ frames := 4, cells := 0, slots := 0, locals := 80 }) (va_Pc [.ref (h 0)] (rwP D (tyL cI cC cW) (ps cI cC cW h Y S q V z U y I) t sz)) (va_Qi (fun (r : Int32) (u : ((Nat → va_H) × (Nat → Int32))) => (r, u) = sp_X5_endWeek Y S q V z U y I) (fun u => rwB D (va_A (ps cI cC cW h Y S q V z U y I) sz) (ps cI cC cW h u.1 S q V z U y u.2)) (va_A (ps cI cC cW h Y S q V z U y I) sz)) 0 0 (va_A (ps cI cC cW h Y S q V z U y I) sz) := by
  refine Met.ofW (cc := cX5_endWeek) (maxL := 1) (ret := (some .int)) (by decide) rfl ?_
  intro p e s m args below meth c s₁ B hml hv
  obtain ⟨rfl, hsz, hP, hK, hD0, hX⟩ := hv
  have hx := B.exec
  have hb := B.bytes
  have hr := B.returns
  have hts := atoms_spec (ws := wsX5_endWeek) B.pre
  have hown : s.vm.findClass RX5 = some m.cls := findClass_of_methodNamed B.named
  have hlocks := B.notSynchronized
  subst hsz
  have hD := hD0.self (sz := s.heap.size)
  generalize hAe : va_A (ps cI cC cW h Y S q V z U y I) s.heap.size = A at hD hX ⊢
  have hA : ∀ q : Nat, s.heap.size ≤ q → A q := fun q h => by rw [← hAe]; exact Or.inr h
  have hS : va_S A s.heap s.heap [] := va_S.rf
  have wd1 : (Cond.fieldLink RX5 37 "PickSlots" "trial" "LPickSlots$Warehouse;").before [.ref (h 0)].toArray s = true := hts _ (List.mem_of_getElem? (i := 1) rfl)
  have hi5 : ∀ w ∈ wsX50, w ∈ wsX5_endWeek := fun w h => List.mem_cons_of_mem _ (List.mem_append_left _ (List.mem_append_left _ (List.mem_append_right _ (h))))
  have CF : CallFix p m c cX5_endWeek 1 s [.ref (h 0)].toArray wsX5_endWeek RX5 := ⟨hx, hb, hml, hown, hts⟩
  have hl := lv_entry ([.ref (h 0)]) (n := 1) (Nat.le_of_ble_eq_true rfl)
  rw [lg_entry_eq]
  generalize (lg_sl ([.ref (h 0)]) ++ List.replicate (1 - (lg_sl ([.ref (h 0)])).length) Slot.unset).toArray = ls at hl ⊢
  have hl : lv_has ls 1 [(0, .ref (h 0))] := hl
  refine lv_aload_n hx hb dX5_endWeek_0 rfl (lv_at hl 0 rfl) ?_
  refine rwVv CF (c_X5_startTrial l D cI cC cW t _ _ _ _ _ _ _ _ _ _  ) (cwV 0 hts gX5_endWeek_X5_startTrial rfl rfl rfl (by decide +kernel) ⟨Nat.le_of_ble_eq_true rfl, Nat.le_of_ble_eq_true rfl⟩) hP hD hK hX hS hA 0 4 ps_0 rfl rfl hl.1 rfl (Nat.le_of_ble_eq_true rfl) dX5_endWeek_1 ⟨Nat.zero_le _, Nat.zero_le _⟩ (fun H locs hP hD hS => ?_)
  refine lv_aload_n hx hb dX5_endWeek_4 rfl (lv_at hl 0 rfl) ?_
  refine lv_aload_n hx hb dX5_endWeek_5 rfl (lv_at hl 0 rfl) ?_
  refine va_get (D := D) (ci := 4) (C := RX5) (T := TX5) (N := 9) hx hb hts hi5 hown hK hP 0 ps_0 rfl 5 (by decide) wd1 (fun _ h9 => h9) rfl dX5_endWeek_6 ?_
  refine rwVs ps_p5 ps_q5 CF (c_X4_finishWeek l D cI cC cW t _ _ _ _  (hsf)) (cwV 0 hts gX5_endWeek_X4_finishWeek rfl rfl rfl (by decide +kernel) ⟨Nat.le_of_ble_eq_true rfl, Nat.le_of_ble_eq_true rfl⟩) hP hD hK hX hS hA 0 3 wg_0 rfl rfl hl.1 rfl (Nat.le_of_ble_eq_true rfl) dX5_endWeek_9 ⟨Nat.zero_le _, Nat.zero_le _⟩ (fun H locs hP hD hS => ?_)
  refine rwV CF (c_X5_endTrial l D cI cC cW t _ _ _ _ _ _ _ _ _ _ _ (hst)) (cwV 1 hts gX5_endWeek_X5_endTrial rfl rfl rfl (by decide +kernel) ⟨Nat.le_of_ble_eq_true rfl, Nat.le_of_ble_eq_true rfl⟩) hP hD hK hX hS hA 0 4 ps_0 rfl rfl hl.1 rfl (Nat.le_of_ble_eq_true rfl) dX5_endWeek_12 ⟨Nat.zero_le _, Nat.zero_le _⟩ (fun H locs hP hD hS => ?_)
  exact rw_ret (_, _) hx hb hr hP hD hS (rfl) dX5_endWeek_15 hlocks

def sp_X5_move (Y : Nat → va_H) (S : Nat → Int32) (q : Nat → Int32) (V : Nat → Int32) (z : Int32) (U : Nat → Int32) (y : Int32) (I : Nat → Int32) (x1 x2 : Int32) : Int32 × ((Nat → va_H) × (Nat → Int32)) :=
  let k1_1 : Nat → va_H := sp_X5_startTrial Y S q V z U y I; let k11_2 : Int32 × ((Nat → Int32) × (Nat → Int32)) := sp_X4_moveGood (k1_1 5).2.1 (k1_1 5).2.2 x1 x2; let Y3 : Nat → va_H := w5 k1_1 k11_2.2.1 k11_2.2.2; let k14_4 : Int32 × ((Nat → va_H) × (Nat → Int32)) := sp_X5_endTrial Y3 S q V z U y I k11_2.1; let Y5 : Nat → va_H := k14_4.2.1; let I6 : Nat → Int32 := k14_4.2.2; (k14_4.1, (Y5, I6))
set_option maxHeartbeats 4000000 in
set_option maxRecDepth 100000 in
theorem c_X5_move (l : Launch) (D : va_G) (cI cC cW : ClassId) (t : Nat → Nat) (h : Nat → Nat) (sz : Nat) (Y : Nat → va_H) (S : Nat → Int32) (q : Nat → Int32) (V : Nat → Int32) (z : Int32) (U : Nat → Int32) (y : Int32) (I : Nat → Int32) (x1 x2 : Int32) (hsf : sfN (Y 4).2.1) (hst : 0 ≤ (I 0).toInt) : Met l yX5_move wsX5_move ({ frames := 5, cells := 0, slots := 0, locals := 107 }) (va_Pc [.ref (h 0), .int x1, .int x2] (rwP D (tyL cI cC cW) (ps cI cC cW h Y S q V z U y I) t sz)) (va_Qi (fun (r : Int32) (u : ((Nat → va_H) × (Nat → Int32))) => (r, u) = sp_X5_move Y S q V z U y I x1 x2) (fun u => rwB D (va_A (ps cI cC cW h Y S q V z U y I) sz) (ps cI cC cW h u.1 S q V z U y u.2)) (va_A (ps cI cC cW h Y S q V z U y I) sz)) 0 0 (va_A (ps cI cC cW h Y S q V z U y I) sz) := by
  refine Met.ofW (cc := cX5_move) (maxL := 3) (ret := (some .int)) (by decide) rfl ?_
  intro p e s m args below meth c s₁ B hml hv
  obtain ⟨rfl, hsz, hP, hK, hD0, hX⟩ := hv
  have hx := B.exec
  have hb := B.bytes
  have hr := B.returns
  have hts := atoms_spec (ws := wsX5_move) B.pre
  have hown : s.vm.findClass RX5 = some m.cls := findClass_of_methodNamed B.named
  have hlocks := B.notSynchronized
  subst hsz
  have hD := hD0.self (sz := s.heap.size)
  generalize hAe : va_A (ps cI cC cW h Y S q V z U y I) s.heap.size = A at hD hX ⊢
  have hA : ∀ q : Nat, s.heap.size ≤ q → A q := fun q h => by rw [← hAe]; exact Or.inr h
  have hS : va_S A s.heap s.heap [] := va_S.rf
  have wd1 : (Cond.fieldLink RX5 37 "PickSlots" "trial" "LPickSlots$Warehouse;").before [.ref (h 0), .int x1, .int x2].toArray s = true := hts _ (List.mem_of_getElem? (i := 1) rfl)
  have hi5 : ∀ w ∈ wsX50, w ∈ wsX5_move := fun w h => List.mem_cons_of_mem _ (List.mem_append_left _ (List.mem_append_left _ (List.mem_append_right _ (h))))
  have CF : CallFix p m c cX5_move 3 s [.ref (h 0), .int x1, .int x2].toArray wsX5_move RX5 := ⟨hx, hb, hml, hown, hts⟩
  have hl := lv_entry ([.ref (h 0), .int x1, .int x2]) (n := 3) (Nat.le_of_ble_eq_true rfl)
  rw [lg_entry_eq]
  generalize (lg_sl ([.ref (h 0), .int x1, .int x2]) ++ List.replicate (3 - (lg_sl ([.ref (h 0), .int x1, .int x2])).length) Slot.unset).toArray = ls at hl ⊢
  have hl : lv_has ls 3 [(0, .ref (h 0)), (1, .int x1), (2, .int x2)] := hl
  refine lv_aload_n hx hb dX5_move_0 rfl (lv_at hl 0 rfl) ?_
  refine rwVv CF (c_X5_startTrial l D cI cC cW t _ _ _ _ _ _ _ _ _ _  ) (cwV 0 hts gX5_move_X5_startTrial rfl rfl rfl (by decide +kernel) ⟨Nat.le_of_ble_eq_true rfl, Nat.le_of_ble_eq_true rfl⟩) hP hD hK hX hS hA 0 4 ps_0 rfl rfl hl.1 rfl (Nat.le_of_ble_eq_true rfl) dX5_move_1 ⟨Nat.zero_le _, Nat.zero_le _⟩ (fun H locs hP hD hS => ?_)
  refine lv_aload_n hx hb dX5_move_4 rfl (lv_at hl 0 rfl) ?_
  refine lv_aload_n hx hb dX5_move_5 rfl (lv_at hl 0 rfl) ?_
  refine va_get (D := D) (ci := 4) (C := RX5) (T := TX5) (N := 9) hx hb hts hi5 hown hK hP 0 ps_0 rfl 5 (by decide) wd1 (fun _ h9 => h9) rfl dX5_move_6 ?_
  refine lv_iload_n hx hb dX5_move_9 rfl (lv_at hl 1 rfl) ?_
  refine lv_iload_n hx hb dX5_move_10 rfl (lv_at hl 2 rfl) ?_
  refine rwVs ps_p5 ps_q5 CF (c_X4_moveGood l D cI cC cW t _ _ _ _ _ _ (hsf)) (cwV 2 hts gX5_move_X4_moveGood rfl rfl rfl (by decide +kernel) ⟨Nat.le_of_ble_eq_true rfl, Nat.le_of_ble_eq_true rfl⟩) hP hD hK hX hS hA 0 3 wg_0 rfl rfl hl.1 rfl (Nat.le_of_ble_eq_true rfl) dX5_move_11 ⟨Nat.zero_le _, Nat.zero_le _⟩ (fun H locs hP hD hS => ?_)
  refine rwV CF (c_X5_endTrial l D cI cC cW t _ _ _ _ _ _ _ _ _ _ _ (hst)) (cwV 1 hts gX5_move_X5_endTrial rfl rfl rfl (by decide +kernel) ⟨Nat.le_of_ble_eq_true rfl, Nat.le_of_ble_eq_true rfl⟩) hP hD hK hX hS hA 0 4 ps_0 rfl rfl hl.1 rfl (Nat.le_of_ble_eq_true rfl) dX5_move_14 ⟨Nat.zero_le _, Nat.zero_le _⟩ (fun H locs hP hD hS => ?_)
  exact rw_ret (_, _) hx hb hr hP hD hS (rfl) dX5_move_17 hlocks

def sp_X5_exchange (Y : Nat → va_H) (S : Nat → Int32) (q : Nat → Int32) (V : Nat → Int32) (z : Int32) (U : Nat → Int32) (y : Int32) (I : Nat → Int32) (x1 x2 : Int32) : Int32 × ((Nat → va_H) × (Nat → Int32)) :=
  let k1_1 : Nat → va_H := sp_X5_startTrial Y S q V z U y I; let k11_2 : Int32 × ((Nat → Int32) × (Nat → Int32)) := sp_X4_exchangeGoods (k1_1 5).2.1 (k1_1 5).2.2 x1 x2; let Y3 : Nat → va_H := w5 k1_1 k11_2.2.1 k11_2.2.2; let k14_4 : Int32 × ((Nat → va_H) × (Nat → Int32)) := sp_X5_endTrial Y3 S q V z U y I k11_2.1; let Y5 : Nat → va_H := k14_4.2.1; let I6 : Nat → Int32 := k14_4.2.2; (k14_4.1, (Y5, I6))
set_option maxHeartbeats 4000000 in
set_option maxRecDepth 100000 in
theorem c_X5_exchange (l : Launch) (D : va_G) (cI cC cW : ClassId) (t : Nat → Nat) (h : Nat → Nat) (sz : Nat) (Y : Nat → va_H) (S : Nat → Int32) (q : Nat → Int32) (V : Nat → Int32) (z : Int32) (U : Nat → Int32) (y : Int32) (I : Nat → Int32) (x1 x2 : Int32) (hsf : sfN (Y 4).2.1) (hst : 0 ≤ (I 0).toInt) : Met l yX5_exchange wsX5_exchange ({ frames := 5, cells := 0, slots := 0, locals := 107 }) (va_Pc [.ref (h 0), .int x1, .int x2] (rwP D (tyL cI cC cW) (ps cI cC cW h Y S q V z U y I) t sz)) (va_Qi (fun (r : Int32) (u : ((Nat → va_H) × (Nat → Int32))) => (r, u) = sp_X5_exchange Y S q V z U y I x1 x2) (fun u => rwB D (va_A (ps cI cC cW h Y S q V z U y I) sz) (ps cI cC cW h u.1 S q V z U y u.2)) (va_A (ps cI cC cW h Y S q V z U y I) sz)) 0 0 (va_A (ps cI cC cW h Y S q V z U y I) sz) := by
  refine Met.ofW (cc := cX5_exchange) (maxL := 3) (ret := (some .int)) (by decide) rfl ?_
  intro p e s m args below meth c s₁ B hml hv
  obtain ⟨rfl, hsz, hP, hK, hD0, hX⟩ := hv
  have hx := B.exec
  have hb := B.bytes
  have hr := B.returns
  have hts := atoms_spec (ws := wsX5_exchange) B.pre
  have hown : s.vm.findClass RX5 = some m.cls := findClass_of_methodNamed B.named
  have hlocks := B.notSynchronized
  subst hsz
  have hD := hD0.self (sz := s.heap.size)
  generalize hAe : va_A (ps cI cC cW h Y S q V z U y I) s.heap.size = A at hD hX ⊢
  have hA : ∀ q : Nat, s.heap.size ≤ q → A q := fun q h => by rw [← hAe]; exact Or.inr h
  have hS : va_S A s.heap s.heap [] := va_S.rf
  have wd1 : (Cond.fieldLink RX5 37 "PickSlots" "trial" "LPickSlots$Warehouse;").before [.ref (h 0), .int x1, .int x2].toArray s = true := hts _ (List.mem_of_getElem? (i := 1) rfl)
  have hi5 : ∀ w ∈ wsX50, w ∈ wsX5_exchange := fun w h => List.mem_cons_of_mem _ (List.mem_append_left _ (List.mem_append_left _ (List.mem_append_right _ (h))))
  have CF : CallFix p m c cX5_exchange 3 s [.ref (h 0), .int x1, .int x2].toArray wsX5_exchange RX5 := ⟨hx, hb, hml, hown, hts⟩
  have hl := lv_entry ([.ref (h 0), .int x1, .int x2]) (n := 3) (Nat.le_of_ble_eq_true rfl)
  rw [lg_entry_eq]
  generalize (lg_sl ([.ref (h 0), .int x1, .int x2]) ++ List.replicate (3 - (lg_sl ([.ref (h 0), .int x1, .int x2])).length) Slot.unset).toArray = ls at hl ⊢
  have hl : lv_has ls 3 [(0, .ref (h 0)), (1, .int x1), (2, .int x2)] := hl
  refine lv_aload_n hx hb dX5_exchange_0 rfl (lv_at hl 0 rfl) ?_
  refine rwVv CF (c_X5_startTrial l D cI cC cW t _ _ _ _ _ _ _ _ _ _  ) (cwV 0 hts gX5_exchange_X5_startTrial rfl rfl rfl (by decide +kernel) ⟨Nat.le_of_ble_eq_true rfl, Nat.le_of_ble_eq_true rfl⟩) hP hD hK hX hS hA 0 4 ps_0 rfl rfl hl.1 rfl (Nat.le_of_ble_eq_true rfl) dX5_exchange_1 ⟨Nat.zero_le _, Nat.zero_le _⟩ (fun H locs hP hD hS => ?_)
  refine lv_aload_n hx hb dX5_exchange_4 rfl (lv_at hl 0 rfl) ?_
  refine lv_aload_n hx hb dX5_exchange_5 rfl (lv_at hl 0 rfl) ?_
  refine va_get (D := D) (ci := 4) (C := RX5) (T := TX5) (N := 9) hx hb hts hi5 hown hK hP 0 ps_0 rfl 5 (by decide) wd1 (fun _ h9 => h9) rfl dX5_exchange_6 ?_
  refine lv_iload_n hx hb dX5_exchange_9 rfl (lv_at hl 1 rfl) ?_
  refine lv_iload_n hx hb dX5_exchange_10 rfl (lv_at hl 2 rfl) ?_
  refine rwVs ps_p5 ps_q5 CF (c_X4_exchangeGoods l D cI cC cW t _ _ _ _ _ _ (hsf)) (cwV 2 hts gX5_exchange_X4_exchangeGoods rfl rfl rfl (by decide +kernel) ⟨Nat.le_of_ble_eq_true rfl, Nat.le_of_ble_eq_true rfl⟩) hP hD hK hX hS hA 0 3 wg_0 rfl rfl hl.1 rfl (Nat.le_of_ble_eq_true rfl) dX5_exchange_11 ⟨Nat.zero_le _, Nat.zero_le _⟩ (fun H locs hP hD hS => ?_)
  refine rwV CF (c_X5_endTrial l D cI cC cW t _ _ _ _ _ _ _ _ _ _ _ (hst)) (cwV 1 hts gX5_exchange_X5_endTrial rfl rfl rfl (by decide +kernel) ⟨Nat.le_of_ble_eq_true rfl, Nat.le_of_ble_eq_true rfl⟩) hP hD hK hX hS hA 0 4 ps_0 rfl rfl hl.1 rfl (Nat.le_of_ble_eq_true rfl) dX5_exchange_14 ⟨Nat.zero_le _, Nat.zero_le _⟩ (fun H locs hP hD hS => ?_)
  exact rw_ret (_, _) hx hb hr hP hD hS (rfl) dX5_exchange_17 hlocks

def sp_X5_improve (Y : Nat → va_H) (S : Nat → Int32) (q : Nat → Int32) (V : Nat → Int32) (z : Int32) (U : Nat → Int32) (y : Int32) (I : Nat → Int32) (x1 : Int32) : Int32 × ((Nat → va_H) × (Nat → Int32)) :=
  let k1_1 : Nat → va_H := sp_X5_startTrial Y S q V z U y I; let k10_2 : Int32 × ((Nat → Int32) × (Nat → Int32)) := sp_X4_doBest (k1_1 5).2.1 (k1_1 5).2.2 x1; let Y3 : Nat → va_H := w5 k1_1 k10_2.2.1 k10_2.2.2; let k13_4 : Int32 × ((Nat → va_H) × (Nat → Int32)) := sp_X5_endTrial Y3 S q V z U y I k10_2.1; let Y5 : Nat → va_H := k13_4.2.1; let I6 : Nat → Int32 := k13_4.2.2; (k13_4.1, (Y5, I6))
set_option maxHeartbeats 4000000 in
set_option maxRecDepth 100000 in
theorem c_X5_improve (l : Launch) (D : va_G) (cI cC cW : ClassId) (t : Nat → Nat) (h : Nat → Nat) (sz : Nat) (Y : Nat → va_H) (S : Nat → Int32) (q : Nat → Int32) (V : Nat → Int32) (z : Int32) (U : Nat → Int32) (y : Int32) (I : Nat → Int32) (x1 : Int32) (hsf : sfN (Y 4).2.1) (hst : 0 ≤ (I 0).toInt) : Met l yX5_improve wsX5_improve ({ frames := 6, cells := 0, slots := 0, locals := 129 }) (va_Pc [.ref (h 0), .int x1] (rwP D (tyL cI cC cW) (ps cI cC cW h Y S q V z U y I) t sz)) (va_Qi (fun (r : Int32) (u : ((Nat → va_H) × (Nat → Int32))) => (r, u) = sp_X5_improve Y S q V z U y I x1) (fun u => rwB D (va_A (ps cI cC cW h Y S q V z U y I) sz) (ps cI cC cW h u.1 S q V z U y u.2)) (va_A (ps cI cC cW h Y S q V z U y I) sz)) 0 0 (va_A (ps cI cC cW h Y S q V z U y I) sz) := by
  refine Met.ofW (cc := cX5_improve) (maxL := 2) (ret := (some .int)) (by decide) rfl ?_
  intro p e s m args below meth c s₁ B hml hv
  obtain ⟨rfl, hsz, hP, hK, hD0, hX⟩ := hv
  have hx := B.exec
  have hb := B.bytes
  have hr := B.returns
  have hts := atoms_spec (ws := wsX5_improve) B.pre
  have hown : s.vm.findClass RX5 = some m.cls := findClass_of_methodNamed B.named
  have hlocks := B.notSynchronized
  subst hsz
  have hD := hD0.self (sz := s.heap.size)
  generalize hAe : va_A (ps cI cC cW h Y S q V z U y I) s.heap.size = A at hD hX ⊢
  have hA : ∀ q : Nat, s.heap.size ≤ q → A q := fun q h => by rw [← hAe]; exact Or.inr h
  have hS : va_S A s.heap s.heap [] := va_S.rf
  have wd1 : (Cond.fieldLink RX5 37 "PickSlots" "trial" "LPickSlots$Warehouse;").before [.ref (h 0), .int x1].toArray s = true := hts _ (List.mem_of_getElem? (i := 1) rfl)
  have hi5 : ∀ w ∈ wsX50, w ∈ wsX5_improve := fun w h => List.mem_cons_of_mem _ (List.mem_append_left _ (List.mem_append_left _ (List.mem_append_right _ (h))))
  have CF : CallFix p m c cX5_improve 2 s [.ref (h 0), .int x1].toArray wsX5_improve RX5 := ⟨hx, hb, hml, hown, hts⟩
  have hl := lv_entry ([.ref (h 0), .int x1]) (n := 2) (Nat.le_of_ble_eq_true rfl)
  rw [lg_entry_eq]
  generalize (lg_sl ([.ref (h 0), .int x1]) ++ List.replicate (2 - (lg_sl ([.ref (h 0), .int x1])).length) Slot.unset).toArray = ls at hl ⊢
  have hl : lv_has ls 2 [(0, .ref (h 0)), (1, .int x1)] := hl
  refine lv_aload_n hx hb dX5_improve_0 rfl (lv_at hl 0 rfl) ?_
  refine rwVv CF (c_X5_startTrial l D cI cC cW t _ _ _ _ _ _ _ _ _ _  ) (cwV 0 hts gX5_improve_X5_startTrial rfl rfl rfl (by decide +kernel) ⟨Nat.le_of_ble_eq_true rfl, Nat.le_of_ble_eq_true rfl⟩) hP hD hK hX hS hA 0 4 ps_0 rfl rfl hl.1 rfl (Nat.le_of_ble_eq_true rfl) dX5_improve_1 ⟨Nat.zero_le _, Nat.zero_le _⟩ (fun H locs hP hD hS => ?_)
  refine lv_aload_n hx hb dX5_improve_4 rfl (lv_at hl 0 rfl) ?_
  refine lv_aload_n hx hb dX5_improve_5 rfl (lv_at hl 0 rfl) ?_
  refine va_get (D := D) (ci := 4) (C := RX5) (T := TX5) (N := 9) hx hb hts hi5 hown hK hP 0 ps_0 rfl 5 (by decide) wd1 (fun _ h9 => h9) rfl dX5_improve_6 ?_
  refine lv_iload_n hx hb dX5_improve_9 rfl (lv_at hl 1 rfl) ?_
  refine rwVs ps_p5 ps_q5 CF (c_X4_doBest l D cI cC cW t _ _ _ _ _ (hsf)) (cwV 1 hts gX5_improve_X4_doBest rfl rfl rfl (by decide +kernel) ⟨Nat.le_of_ble_eq_true rfl, Nat.le_of_ble_eq_true rfl⟩) hP hD hK hX hS hA 0 3 wg_0 rfl rfl hl.1 rfl (Nat.le_of_ble_eq_true rfl) dX5_improve_10 ⟨Nat.zero_le _, Nat.zero_le _⟩ (fun H locs hP hD hS => ?_)
  refine rwV CF (c_X5_endTrial l D cI cC cW t _ _ _ _ _ _ _ _ _ _ _ (hst)) (cwV 1 hts gX5_improve_X5_endTrial rfl rfl rfl (by decide +kernel) ⟨Nat.le_of_ble_eq_true rfl, Nat.le_of_ble_eq_true rfl⟩) hP hD hK hX hS hA 0 4 ps_0 rfl rfl hl.1 rfl (Nat.le_of_ble_eq_true rfl) dX5_improve_13 ⟨Nat.zero_le _, Nat.zero_le _⟩ (fun H locs hP hD hS => ?_)
  exact rw_ret (_, _) hx hb hr hP hD hS (rfl) dX5_improve_16 hlocks

def sp_X5_set (Y : Nat → va_H) (S : Nat → Int32) (q : Nat → Int32) (V : Nat → Int32) (z : Int32) (U : Nat → Int32) (y : Int32) (I : Nat → Int32) (x1 x2 : Int32) : Int32 × ((Nat → va_H) × (Nat → Int32)) :=
  let k1_1 : Nat → va_H := sp_X5_startTrial Y S q V z U y I; let k11_2 : Int32 × ((Nat → Int32) × (Nat → Int32)) := sp_X4_changeSetting (k1_1 5).2.1 (k1_1 5).2.2 x1 x2; let Y3 : Nat → va_H := w5 k1_1 k11_2.2.1 k11_2.2.2; let k14_4 : Int32 × ((Nat → va_H) × (Nat → Int32)) := sp_X5_endTrial Y3 S q V z U y I k11_2.1; let Y5 : Nat → va_H := k14_4.2.1; let I6 : Nat → Int32 := k14_4.2.2; (k14_4.1, (Y5, I6))
set_option maxHeartbeats 4000000 in
set_option maxRecDepth 100000 in
theorem c_X5_set (l : Launch) (D : va_G) (cI cC cW : ClassId) (t : Nat → Nat) (h : Nat → Nat) (sz : Nat) (Y : Nat → va_H) (S : Nat → Int32) (q : Nat → Int32) (V : Nat → Int32) (z : Int32) (U : Nat → Int32) (y : Int32) (I : Nat → Int32) (x1 x2 : Int32) (hst : 0 ≤ (I 0).toInt) : Met l yX5_set wsX5_set ({ frames := 4, cells := 0, slots := 0, locals := 80 }) (va_Pc [.ref (h 0), .int x1, .int x2] (rwP D (tyL cI cC cW) (ps cI cC cW h Y S q V z U y I) t sz)) (va_Qi (fun (r : Int32) (u : ((Nat → va_H) × (Nat → Int32))) => (r, u) = sp_X5_set Y S q V z U y I x1 x2) (fun u => rwB D (va_A (ps cI cC cW h Y S q V z U y I) sz) (ps cI cC cW h u.1 S q V z U y u.2)) (va_A (ps cI cC cW h Y S q V z U y I) sz)) 0 0 (va_A (ps cI cC cW h Y S q V z U y I) sz) := by
  refine Met.ofW (cc := cX5_set) (maxL := 3) (ret := (some .int)) (by decide) rfl ?_
  intro p e s m args below meth c s₁ B hml hv
  obtain ⟨rfl, hsz, hP, hK, hD0, hX⟩ := hv
  have hx := B.exec
  have hb := B.bytes
  have hr := B.returns
  have hts := atoms_spec (ws := wsX5_set) B.pre
  have hown : s.vm.findClass RX5 = some m.cls := findClass_of_methodNamed B.named
  have hlocks := B.notSynchronized
  subst hsz
  have hD := hD0.self (sz := s.heap.size)
  generalize hAe : va_A (ps cI cC cW h Y S q V z U y I) s.heap.size = A at hD hX ⊢
  have hA : ∀ q : Nat, s.heap.size ≤ q → A q := fun q h => by rw [← hAe]; exact Or.inr h
  have hS : va_S A s.heap s.heap [] := va_S.rf
  have wd1 : (Cond.fieldLink RX5 37 "PickSlots" "trial" "LPickSlots$Warehouse;").before [.ref (h 0), .int x1, .int x2].toArray s = true := hts _ (List.mem_of_getElem? (i := 1) rfl)
  have hi5 : ∀ w ∈ wsX50, w ∈ wsX5_set := fun w h => List.mem_cons_of_mem _ (List.mem_append_left _ (List.mem_append_left _ (List.mem_append_right _ (h))))
  have CF : CallFix p m c cX5_set 3 s [.ref (h 0), .int x1, .int x2].toArray wsX5_set RX5 := ⟨hx, hb, hml, hown, hts⟩
  have hl := lv_entry ([.ref (h 0), .int x1, .int x2]) (n := 3) (Nat.le_of_ble_eq_true rfl)
  rw [lg_entry_eq]
  generalize (lg_sl ([.ref (h 0), .int x1, .int x2]) ++ List.replicate (3 - (lg_sl ([.ref (h 0), .int x1, .int x2])).length) Slot.unset).toArray = ls at hl ⊢
  have hl : lv_has ls 3 [(0, .ref (h 0)), (1, .int x1), (2, .int x2)] := hl
  refine lv_aload_n hx hb dX5_set_0 rfl (lv_at hl 0 rfl) ?_
  refine rwVv CF (c_X5_startTrial l D cI cC cW t _ _ _ _ _ _ _ _ _ _  ) (cwV 0 hts gX5_set_X5_startTrial rfl rfl rfl (by decide +kernel) ⟨Nat.le_of_ble_eq_true rfl, Nat.le_of_ble_eq_true rfl⟩) hP hD hK hX hS hA 0 4 ps_0 rfl rfl hl.1 rfl (Nat.le_of_ble_eq_true rfl) dX5_set_1 ⟨Nat.zero_le _, Nat.zero_le _⟩ (fun H locs hP hD hS => ?_)
  refine lv_aload_n hx hb dX5_set_4 rfl (lv_at hl 0 rfl) ?_
  refine lv_aload_n hx hb dX5_set_5 rfl (lv_at hl 0 rfl) ?_
  refine va_get (D := D) (ci := 4) (C := RX5) (T := TX5) (N := 9) hx hb hts hi5 hown hK hP 0 ps_0 rfl 5 (by decide) wd1 (fun _ h9 => h9) rfl dX5_set_6 ?_
  refine lv_iload_n hx hb dX5_set_9 rfl (lv_at hl 1 rfl) ?_
  refine lv_iload_n hx hb dX5_set_10 rfl (lv_at hl 2 rfl) ?_
  refine rwVs ps_p5 ps_q5 CF (c_X4_changeSetting l D cI cC cW t _ _ _ _ _ _ ) (cwV 2 hts gX5_set_X4_changeSetting rfl rfl rfl (by decide +kernel) ⟨Nat.le_of_ble_eq_true rfl, Nat.le_of_ble_eq_true rfl⟩) hP hD hK hX hS hA 0 3 wg_0 rfl rfl hl.1 rfl (Nat.le_of_ble_eq_true rfl) dX5_set_11 ⟨Nat.zero_le _, Nat.zero_le _⟩ (fun H locs hP hD hS => ?_)
  refine rwV CF (c_X5_endTrial l D cI cC cW t _ _ _ _ _ _ _ _ _ _ _ (hst)) (cwV 1 hts gX5_set_X5_endTrial rfl rfl rfl (by decide +kernel) ⟨Nat.le_of_ble_eq_true rfl, Nat.le_of_ble_eq_true rfl⟩) hP hD hK hX hS hA 0 4 ps_0 rfl rfl hl.1 rfl (Nat.le_of_ble_eq_true rfl) dX5_set_14 ⟨Nat.zero_le _, Nat.zero_le _⟩ (fun H locs hP hD hS => ?_)
  exact rw_ret (_, _) hx hb hr hP hD hS (rfl) dX5_set_17 hlocks

def sp_X5_goodOf (Y : Nat → va_H) (S : Nat → Int32) (q : Nat → Int32) (V : Nat → Int32) (z : Int32) (U : Nat → Int32) (y : Int32) (I : Nat → Int32) (x1 x2 : Int32) : Int32 :=
  (sp_X4_numberOfGood (Y 4).2.1 (Y 4).2.2 x1 x2)
set_option maxHeartbeats 4000000 in
set_option maxRecDepth 100000 in
theorem c_X5_goodOf (l : Launch) (D : va_G) (cI cC cW : ClassId) (t : Nat → Nat) (h : Nat → Nat) (Y : Nat → va_H) (S : Nat → Int32) (q : Nat → Int32) (V : Nat → Int32) (z : Int32) (U : Nat → Int32) (y : Int32) (I : Nat → Int32) (x1 x2 : Int32) (hsf : sfN (Y 4).2.1) : Met l yX5_goodOf wsX5_goodOf ({ frames := 3, cells := 0, slots := 0, locals := 63 }) (va_Pc [.ref (h 0), .int x1, .int x2] (roP D (tyL cI cC cW) (ps cI cC cW h Y S q V z U y I) t)) (vp_Si (fun r => r = sp_X5_goodOf Y S q V z U y I x1 x2)) 0 0 (fun _ => False) := by
  refine Met.ofW (cc := cX5_goodOf) (maxL := 3) (ret := (some .int)) (by decide) rfl ?_
  intro p e s m args below meth c s₁ B hml hv
  obtain ⟨rfl, hP, hK, hX⟩ := hv
  have hx := B.exec
  have hb := B.bytes
  have hr := B.returns
  have hts := atoms_spec (ws := wsX5_goodOf) B.pre
  have hown : s.vm.findClass RX5 = some m.cls := findClass_of_methodNamed B.named
  have hlocks := B.notSynchronized
  have hS : va_S (fun _ => False) s.heap s.heap [] := va_S.rf
  have wd1 : (Cond.fieldLink RX5 33 "PickSlots" "now" "LPickSlots$Warehouse;").before [.ref (h 0), .int x1, .int x2].toArray s = true := hts _ (List.mem_of_getElem? (i := 1) rfl)
  have hi5 : ∀ w ∈ wsX50, w ∈ wsX5_goodOf := fun w h => List.mem_cons_of_mem _ (List.mem_append_left _ (List.mem_append_right _ (h)))
  have CF : CallFix p m c cX5_goodOf 3 s [.ref (h 0), .int x1, .int x2].toArray wsX5_goodOf RX5 := ⟨hx, hb, hml, hown, hts⟩
  have hl := lv_entry ([.ref (h 0), .int x1, .int x2]) (n := 3) (Nat.le_of_ble_eq_true rfl)
  rw [lg_entry_eq]
  generalize (lg_sl ([.ref (h 0), .int x1, .int x2]) ++ List.replicate (3 - (lg_sl ([.ref (h 0), .int x1, .int x2])).length) Slot.unset).toArray = ls at hl ⊢
  have hl : lv_has ls 3 [(0, .ref (h 0)), (1, .int x1), (2, .int x2)] := hl
  refine lv_aload_n hx hb dX5_goodOf_0 rfl (lv_at hl 0 rfl) ?_
  refine va_get (D := D) (ci := 4) (C := RX5) (T := TX5) (N := 9) hx hb hts hi5 hown hK hP 0 ps_0 rfl 4 (by decide) wd1 (fun _ h9 => h9) rfl dX5_goodOf_1 ?_
  refine lv_iload_n hx hb dX5_goodOf_4 rfl (lv_at hl 1 rfl) ?_
  refine lv_iload_n hx hb dX5_goodOf_5 rfl (lv_at hl 2 rfl) ?_
  refine roV CF (c_X4_numberOfGood l D cI cC cW t _ _ _ _ _ (by assumption)) (cwV 2 hts gX5_goodOf_X4_numberOfGood rfl rfl rfl (by decide +kernel) ⟨Nat.le_of_ble_eq_true rfl, Nat.le_of_ble_eq_true rfl⟩) (vP_l (vP_perm ps_p4 hP)) hK hX hS 0 3 wg_0 rfl rfl hl.1 rfl (Nat.le_of_ble_eq_true rfl) dX5_goodOf_6 ⟨Nat.zero_le _, Nat.zero_le _⟩ ?_
  exact ro_ret hx hb hr (rfl) dX5_goodOf_9 hlocks

def sp_X5_nearest (Y : Nat → va_H) (S : Nat → Int32) (q : Nat → Int32) (V : Nat → Int32) (z : Int32) (U : Nat → Int32) (y : Int32) (I : Nat → Int32) (x1 : Int32) : Int32 :=
  (sp_X4_nearestFreeSlot (Y 4).2.1 (Y 4).2.2 x1)
set_option maxHeartbeats 4000000 in
set_option maxRecDepth 100000 in
theorem c_X5_nearest (l : Launch) (D : va_G) (cI cC cW : ClassId) (t : Nat → Nat) (h : Nat → Nat) (Y : Nat → va_H) (S : Nat → Int32) (q : Nat → Int32) (V : Nat → Int32) (z : Int32) (U : Nat → Int32) (y : Int32) (I : Nat → Int32) (x1 : Int32) (hsf : sfN (Y 4).2.1) : Met l yX5_nearest wsX5_nearest ({ frames := 3, cells := 0, slots := 0, locals := 66 }) (va_Pc [.ref (h 0), .int x1] (roP D (tyL cI cC cW) (ps cI cC cW h Y S q V z U y I) t)) (vp_Si (fun r => r = sp_X5_nearest Y S q V z U y I x1)) 0 0 (fun _ => False) := by
  refine Met.ofW (cc := cX5_nearest) (maxL := 2) (ret := (some .int)) (by decide) rfl ?_
  intro p e s m args below meth c s₁ B hml hv
  obtain ⟨rfl, hP, hK, hX⟩ := hv
  have hx := B.exec
  have hb := B.bytes
  have hr := B.returns
  have hts := atoms_spec (ws := wsX5_nearest) B.pre
  have hown : s.vm.findClass RX5 = some m.cls := findClass_of_methodNamed B.named
  have hlocks := B.notSynchronized
  have hS : va_S (fun _ => False) s.heap s.heap [] := va_S.rf
  have wd1 : (Cond.fieldLink RX5 33 "PickSlots" "now" "LPickSlots$Warehouse;").before [.ref (h 0), .int x1].toArray s = true := hts _ (List.mem_of_getElem? (i := 1) rfl)
  have hi5 : ∀ w ∈ wsX50, w ∈ wsX5_nearest := fun w h => List.mem_cons_of_mem _ (List.mem_append_left _ (List.mem_append_right _ (h)))
  have CF : CallFix p m c cX5_nearest 2 s [.ref (h 0), .int x1].toArray wsX5_nearest RX5 := ⟨hx, hb, hml, hown, hts⟩
  have hl := lv_entry ([.ref (h 0), .int x1]) (n := 2) (Nat.le_of_ble_eq_true rfl)
  rw [lg_entry_eq]
  generalize (lg_sl ([.ref (h 0), .int x1]) ++ List.replicate (2 - (lg_sl ([.ref (h 0), .int x1])).length) Slot.unset).toArray = ls at hl ⊢
  have hl : lv_has ls 2 [(0, .ref (h 0)), (1, .int x1)] := hl
  refine lv_aload_n hx hb dX5_nearest_0 rfl (lv_at hl 0 rfl) ?_
  refine va_get (D := D) (ci := 4) (C := RX5) (T := TX5) (N := 9) hx hb hts hi5 hown hK hP 0 ps_0 rfl 4 (by decide) wd1 (fun _ h9 => h9) rfl dX5_nearest_1 ?_
  refine lv_iload_n hx hb dX5_nearest_4 rfl (lv_at hl 1 rfl) ?_
  refine roV CF (c_X4_nearestFreeSlot l D cI cC cW t _ _ _ _ (by assumption)) (cwV 1 hts gX5_nearest_X4_nearestFreeSlot rfl rfl rfl (by decide +kernel) ⟨Nat.le_of_ble_eq_true rfl, Nat.le_of_ble_eq_true rfl⟩) (vP_l (vP_perm ps_p4 hP)) hK hX hS 0 3 wg_0 rfl rfl hl.1 rfl (Nat.le_of_ble_eq_true rfl) dX5_nearest_5 ⟨Nat.zero_le _, Nat.zero_le _⟩ ?_
  exact ro_ret hx hb hr (rfl) dX5_nearest_8 hlocks

def sp_X5_worth (Y : Nat → va_H) (S : Nat → Int32) (q : Nat → Int32) (V : Nat → Int32) (z : Int32) (U : Nat → Int32) (y : Int32) (I : Nat → Int32) (x1 x2 x3 : Int32) : Int32 :=
  (sp_X4_numberOfChange (Y 4).2.1 (Y 4).2.2 x1 x2 x3)
set_option maxHeartbeats 4000000 in
set_option maxRecDepth 100000 in
theorem c_X5_worth (l : Launch) (D : va_G) (cI cC cW : ClassId) (t : Nat → Nat) (h : Nat → Nat) (Y : Nat → va_H) (S : Nat → Int32) (q : Nat → Int32) (V : Nat → Int32) (z : Int32) (U : Nat → Int32) (y : Int32) (I : Nat → Int32) (x1 x2 x3 : Int32) (hsf : sfN (Y 4).2.1) : Met l yX5_worth wsX5_worth ({ frames := 5, cells := 0, slots := 0, locals := 105 }) (va_Pc [.ref (h 0), .int x1, .int x2, .int x3] (roP D (tyL cI cC cW) (ps cI cC cW h Y S q V z U y I) t)) (vp_Si (fun r => r = sp_X5_worth Y S q V z U y I x1 x2 x3)) 0 0 (fun _ => False) := by
  refine Met.ofW (cc := cX5_worth) (maxL := 4) (ret := (some .int)) (by decide) rfl ?_
  intro p e s m args below meth c s₁ B hml hv
  obtain ⟨rfl, hP, hK, hX⟩ := hv
  have hx := B.exec
  have hb := B.bytes
  have hr := B.returns
  have hts := atoms_spec (ws := wsX5_worth) B.pre
  have hown : s.vm.findClass RX5 = some m.cls := findClass_of_methodNamed B.named
  have hlocks := B.notSynchronized
  have hS : va_S (fun _ => False) s.heap s.heap [] := va_S.rf
  have wd1 : (Cond.fieldLink RX5 33 "PickSlots" "now" "LPickSlots$Warehouse;").before [.ref (h 0), .int x1, .int x2, .int x3].toArray s = true := hts _ (List.mem_of_getElem? (i := 1) rfl)
  have hi5 : ∀ w ∈ wsX50, w ∈ wsX5_worth := fun w h => List.mem_cons_of_mem _ (List.mem_append_left _ (List.mem_append_right _ (h)))
  have CF : CallFix p m c cX5_worth 4 s [.ref (h 0), .int x1, .int x2, .int x3].toArray wsX5_worth RX5 := ⟨hx, hb, hml, hown, hts⟩
  have hl := lv_entry ([.ref (h 0), .int x1, .int x2, .int x3]) (n := 4) (Nat.le_of_ble_eq_true rfl)
  rw [lg_entry_eq]
  generalize (lg_sl ([.ref (h 0), .int x1, .int x2, .int x3]) ++ List.replicate (4 - (lg_sl ([.ref (h 0), .int x1, .int x2, .int x3])).length) Slot.unset).toArray = ls at hl ⊢
  have hl : lv_has ls 4 [(0, .ref (h 0)), (1, .int x1), (2, .int x2), (3, .int x3)] := hl
  refine lv_aload_n hx hb dX5_worth_0 rfl (lv_at hl 0 rfl) ?_
  refine va_get (D := D) (ci := 4) (C := RX5) (T := TX5) (N := 9) hx hb hts hi5 hown hK hP 0 ps_0 rfl 4 (by decide) wd1 (fun _ h9 => h9) rfl dX5_worth_1 ?_
  refine lv_iload_n hx hb dX5_worth_4 rfl (lv_at hl 1 rfl) ?_
  refine lv_iload_n hx hb dX5_worth_5 rfl (lv_at hl 2 rfl) ?_
  refine lv_iload_n hx hb dX5_worth_6 rfl (lv_at hl 3 rfl) ?_
  refine roV CF (c_X4_numberOfChange l D cI cC cW t _ _ _ _ _ _ (by assumption)) (cwV 3 hts gX5_worth_X4_numberOfChange rfl rfl rfl (by decide +kernel) ⟨Nat.le_of_ble_eq_true rfl, Nat.le_of_ble_eq_true rfl⟩) (vP_l (vP_perm ps_p4 hP)) hK hX hS 0 3 wg_0 rfl rfl hl.1 rfl (Nat.le_of_ble_eq_true rfl) dX5_worth_7 ⟨Nat.zero_le _, Nat.zero_le _⟩ ?_
  exact ro_ret hx hb hr (rfl) dX5_worth_10 hlocks

def sp_X5_best (Y : Nat → va_H) (S : Nat → Int32) (q : Nat → Int32) (V : Nat → Int32) (z : Int32) (U : Nat → Int32) (y : Int32) (I : Nat → Int32) (x1 : Int32) : Int32 :=
  (sp_X4_numberOfBest (Y 4).2.1 (Y 4).2.2 x1)
set_option maxHeartbeats 4000000 in
set_option maxRecDepth 100000 in
theorem c_X5_best (l : Launch) (D : va_G) (cI cC cW : ClassId) (t : Nat → Nat) (h : Nat → Nat) (Y : Nat → va_H) (S : Nat → Int32) (q : Nat → Int32) (V : Nat → Int32) (z : Int32) (U : Nat → Int32) (y : Int32) (I : Nat → Int32) (x1 : Int32) (hsf : sfN (Y 4).2.1) : Met l yX5_best wsX5_best ({ frames := 6, cells := 0, slots := 0, locals := 130 }) (va_Pc [.ref (h 0), .int x1] (roP D (tyL cI cC cW) (ps cI cC cW h Y S q V z U y I) t)) (vp_Si (fun r => r = sp_X5_best Y S q V z U y I x1)) 0 0 (fun _ => False) := by
  refine Met.ofW (cc := cX5_best) (maxL := 2) (ret := (some .int)) (by decide) rfl ?_
  intro p e s m args below meth c s₁ B hml hv
  obtain ⟨rfl, hP, hK, hX⟩ := hv
  have hx := B.exec
  have hb := B.bytes
  have hr := B.returns
  have hts := atoms_spec (ws := wsX5_best) B.pre
  have hown : s.vm.findClass RX5 = some m.cls := findClass_of_methodNamed B.named
  have hlocks := B.notSynchronized
  have hS : va_S (fun _ => False) s.heap s.heap [] := va_S.rf
  have wd1 : (Cond.fieldLink RX5 33 "PickSlots" "now" "LPickSlots$Warehouse;").before [.ref (h 0), .int x1].toArray s = true := hts _ (List.mem_of_getElem? (i := 1) rfl)
  have hi5 : ∀ w ∈ wsX50, w ∈ wsX5_best := fun w h => List.mem_cons_of_mem _ (List.mem_append_left _ (List.mem_append_right _ (h)))
  have CF : CallFix p m c cX5_best 2 s [.ref (h 0), .int x1].toArray wsX5_best RX5 := ⟨hx, hb, hml, hown, hts⟩
  have hl := lv_entry ([.ref (h 0), .int x1]) (n := 2) (Nat.le_of_ble_eq_true rfl)
  rw [lg_entry_eq]
  generalize (lg_sl ([.ref (h 0), .int x1]) ++ List.replicate (2 - (lg_sl ([.ref (h 0), .int x1])).length) Slot.unset).toArray = ls at hl ⊢
  have hl : lv_has ls 2 [(0, .ref (h 0)), (1, .int x1)] := hl
  refine lv_aload_n hx hb dX5_best_0 rfl (lv_at hl 0 rfl) ?_
  refine va_get (D := D) (ci := 4) (C := RX5) (T := TX5) (N := 9) hx hb hts hi5 hown hK hP 0 ps_0 rfl 4 (by decide) wd1 (fun _ h9 => h9) rfl dX5_best_1 ?_
  refine lv_iload_n hx hb dX5_best_4 rfl (lv_at hl 1 rfl) ?_
  refine roV CF (c_X4_numberOfBest l D cI cC cW t _ _ _ _ (by assumption)) (cwV 1 hts gX5_best_X4_numberOfBest rfl rfl rfl (by decide +kernel) ⟨Nat.le_of_ble_eq_true rfl, Nat.le_of_ble_eq_true rfl⟩) (vP_l (vP_perm ps_p4 hP)) hK hX hS 0 3 wg_0 rfl rfl hl.1 rfl (Nat.le_of_ble_eq_true rfl) dX5_best_5 ⟨Nat.zero_le _, Nat.zero_le _⟩ ?_
  exact ro_ret hx hb hr (rfl) dX5_best_8 hlocks

def sp_X5_account (Y : Nat → va_H) (S : Nat → Int32) (q : Nat → Int32) (V : Nat → Int32) (z : Int32) (U : Nat → Int32) (y : Int32) (I : Nat → Int32) (x1 : Int32) : Int32 :=
  (sp_X4_numberOfAccount (Y 4).2.1 (Y 4).2.2 x1)
set_option maxHeartbeats 4000000 in
set_option maxRecDepth 100000 in
theorem c_X5_account (l : Launch) (D : va_G) (cI cC cW : ClassId) (t : Nat → Nat) (h : Nat → Nat) (Y : Nat → va_H) (S : Nat → Int32) (q : Nat → Int32) (V : Nat → Int32) (z : Int32) (U : Nat → Int32) (y : Int32) (I : Nat → Int32) (x1 : Int32) (hsf : sfN (Y 4).2.1) : Met l yX5_account wsX5_account ({ frames := 4, cells := 0, slots := 0, locals := 85 }) (va_Pc [.ref (h 0), .int x1] (roP D (tyL cI cC cW) (ps cI cC cW h Y S q V z U y I) t)) (vp_Si (fun r => r = sp_X5_account Y S q V z U y I x1)) 0 0 (fun _ => False) := by
  refine Met.ofW (cc := cX5_account) (maxL := 2) (ret := (some .int)) (by decide) rfl ?_
  intro p e s m args below meth c s₁ B hml hv
  obtain ⟨rfl, hP, hK, hX⟩ := hv
  have hx := B.exec
  have hb := B.bytes
  have hr := B.returns
  have hts := atoms_spec (ws := wsX5_account) B.pre
  have hown : s.vm.findClass RX5 = some m.cls := findClass_of_methodNamed B.named
  have hlocks := B.notSynchronized
  have hS : va_S (fun _ => False) s.heap s.heap [] := va_S.rf
  have wd1 : (Cond.fieldLink RX5 33 "PickSlots" "now" "LPickSlots$Warehouse;").before [.ref (h 0), .int x1].toArray s = true := hts _ (List.mem_of_getElem? (i := 1) rfl)
  have hi5 : ∀ w ∈ wsX50, w ∈ wsX5_account := fun w h => List.mem_cons_of_mem _ (List.mem_append_left _ (List.mem_append_left _ (List.mem_append_right _ (h))))
  have CF : CallFix p m c cX5_account 2 s [.ref (h 0), .int x1].toArray wsX5_account RX5 := ⟨hx, hb, hml, hown, hts⟩
  have hl := lv_entry ([.ref (h 0), .int x1]) (n := 2) (Nat.le_of_ble_eq_true rfl)
  rw [lg_entry_eq]
  generalize (lg_sl ([.ref (h 0), .int x1]) ++ List.replicate (2 - (lg_sl ([.ref (h 0), .int x1])).length) Slot.unset).toArray = ls at hl ⊢
  have hl : lv_has ls 2 [(0, .ref (h 0)), (1, .int x1)] := hl
  refine lv_aload_n hx hb dX5_account_0 rfl (lv_at hl 0 rfl) ?_
  refine va_get (D := D) (ci := 4) (C := RX5) (T := TX5) (N := 9) hx hb hts hi5 hown hK hP 0 ps_0 rfl 4 (by decide) wd1 (fun _ h9 => h9) rfl dX5_account_1 ?_
  refine lv_iload_n hx hb dX5_account_4 rfl (lv_at hl 1 rfl) ?_
  refine roV CF (c_X4_numberOfAccount l D cI cC cW t _ _ _ _ (by assumption)) (cwV 1 hts gX5_account_X4_numberOfAccount rfl rfl rfl (by decide +kernel) ⟨Nat.le_of_ble_eq_true rfl, Nat.le_of_ble_eq_true rfl⟩) (vP_l (vP_perm ps_p4 hP)) hK hX hS 0 3 wg_0 rfl rfl hl.1 rfl (Nat.le_of_ble_eq_true rfl) dX5_account_5 ⟨Nat.zero_le _, Nat.zero_le _⟩ ?_
  exact ro_ret hx hb hr (rfl) dX5_account_8 hlocks

def sp_X5_slotOf (Y : Nat → va_H) (S : Nat → Int32) (q : Nat → Int32) (V : Nat → Int32) (z : Int32) (U : Nat → Int32) (y : Int32) (I : Nat → Int32) (x1 x2 : Int32) : Int32 :=
  (sp_X4_numberOfSlot (Y 4).2.1 (Y 4).2.2 x1 x2)
set_option maxHeartbeats 4000000 in
set_option maxRecDepth 100000 in
theorem c_X5_slotOf (l : Launch) (D : va_G) (cI cC cW : ClassId) (t : Nat → Nat) (h : Nat → Nat) (Y : Nat → va_H) (S : Nat → Int32) (q : Nat → Int32) (V : Nat → Int32) (z : Int32) (U : Nat → Int32) (y : Int32) (I : Nat → Int32) (x1 x2 : Int32)  : Met l yX5_slotOf wsX5_slotOf ({ frames := 2, cells := 0, slots := 0, locals := 43 }) (va_Pc [.ref (h 0), .int x1, .int x2] (roP D (tyL cI cC cW) (ps cI cC cW h Y S q V z U y I) t)) (vp_Si (fun r => r = sp_X5_slotOf Y S q V z U y I x1 x2)) 0 0 (fun _ => False) := by
  refine Met.ofW (cc := cX5_slotOf) (maxL := 3) (ret := (some .int)) (by decide) rfl ?_
  intro p e s m args below meth c s₁ B hml hv
  obtain ⟨rfl, hP, hK, hX⟩ := hv
  have hx := B.exec
  have hb := B.bytes
  have hr := B.returns
  have hts := atoms_spec (ws := wsX5_slotOf) B.pre
  have hown : s.vm.findClass RX5 = some m.cls := findClass_of_methodNamed B.named
  have hlocks := B.notSynchronized
  have hS : va_S (fun _ => False) s.heap s.heap [] := va_S.rf
  have wd1 : (Cond.fieldLink RX5 33 "PickSlots" "now" "LPickSlots$Warehouse;").before [.ref (h 0), .int x1, .int x2].toArray s = true := hts _ (List.mem_of_getElem? (i := 1) rfl)
  have hi5 : ∀ w ∈ wsX50, w ∈ wsX5_slotOf := fun w h => List.mem_cons_of_mem _ (List.mem_append_left _ (List.mem_append_right _ (h)))
  have CF : CallFix p m c cX5_slotOf 3 s [.ref (h 0), .int x1, .int x2].toArray wsX5_slotOf RX5 := ⟨hx, hb, hml, hown, hts⟩
  have hl := lv_entry ([.ref (h 0), .int x1, .int x2]) (n := 3) (Nat.le_of_ble_eq_true rfl)
  rw [lg_entry_eq]
  generalize (lg_sl ([.ref (h 0), .int x1, .int x2]) ++ List.replicate (3 - (lg_sl ([.ref (h 0), .int x1, .int x2])).length) Slot.unset).toArray = ls at hl ⊢
  have hl : lv_has ls 3 [(0, .ref (h 0)), (1, .int x1), (2, .int x2)] := hl
  refine lv_aload_n hx hb dX5_slotOf_0 rfl (lv_at hl 0 rfl) ?_
  refine va_get (D := D) (ci := 4) (C := RX5) (T := TX5) (N := 9) hx hb hts hi5 hown hK hP 0 ps_0 rfl 4 (by decide) wd1 (fun _ h9 => h9) rfl dX5_slotOf_1 ?_
  refine lv_iload_n hx hb dX5_slotOf_4 rfl (lv_at hl 1 rfl) ?_
  refine lv_iload_n hx hb dX5_slotOf_5 rfl (lv_at hl 2 rfl) ?_
  refine roV CF (c_X4_numberOfSlot l D cI cC cW t _ _ _ _ _ ) (cwV 2 hts gX5_slotOf_X4_numberOfSlot rfl rfl rfl (by decide +kernel) ⟨Nat.le_of_ble_eq_true rfl, Nat.le_of_ble_eq_true rfl⟩) (vP_l (vP_perm ps_p4 hP)) hK hX hS 0 3 wg_0 rfl rfl hl.1 rfl (Nat.le_of_ble_eq_true rfl) dX5_slotOf_6 ⟨Nat.zero_le _, Nat.zero_le _⟩ ?_
  exact ro_ret hx hb hr (rfl) dX5_slotOf_9 hlocks

def sp_X5_count (Y : Nat → va_H) (S : Nat → Int32) (q : Nat → Int32) (V : Nat → Int32) (z : Int32) (U : Nat → Int32) (y : Int32) (I : Nat → Int32) (x1 : Int32) : Int32 :=
  if x1 = (8 : Int32) then ((I 0)) else (if x1 = (9 : Int32) then ((q 0)) else ((sp_X4_numberOfWarehouse (Y 4).2.1 (Y 4).2.2 x1)))
set_option maxHeartbeats 4000000 in
set_option maxRecDepth 100000 in
theorem c_X5_count (l : Launch) (D : va_G) (cI cC cW : ClassId) (t : Nat → Nat) (h : Nat → Nat) (Y : Nat → va_H) (S : Nat → Int32) (q : Nat → Int32) (V : Nat → Int32) (z : Int32) (U : Nat → Int32) (y : Int32) (I : Nat → Int32) (x1 : Int32) (hsf : sfN (Y 4).2.1) : Met l yX5_count wsX5_count ({ frames := 4, cells := 0, slots := 0, locals := 85 }) (va_Pc [.ref (h 0), .int x1] (roP D (tyL cI cC cW) (ps cI cC cW h Y S q V z U y I) t)) (vp_Si (fun r => r = sp_X5_count Y S q V z U y I x1)) 0 0 (fun _ => False) := by
  refine Met.ofW (cc := cX5_count) (maxL := 2) (ret := (some .int)) (by decide) rfl ?_
  intro p e s m args below meth c s₁ B hml hv
  obtain ⟨rfl, hP, hK, hX⟩ := hv
  have hx := B.exec
  have hb := B.bytes
  have hr := B.returns
  have hts := atoms_spec (ws := wsX5_count) B.pre
  have hown : s.vm.findClass RX5 = some m.cls := findClass_of_methodNamed B.named
  have hlocks := B.notSynchronized
  have hS : va_S (fun _ => False) s.heap s.heap [] := va_S.rf
  have wd3 : (Cond.fieldLink RX5 33 "PickSlots" "now" "LPickSlots$Warehouse;").before [.ref (h 0), .int x1].toArray s = true := hts _ (List.mem_of_getElem? (i := 3) rfl)
  have wd2 : (Cond.fieldLink RX5 18 "PickSlots" "text" "LPickSlots$OrderText;").before [.ref (h 0), .int x1].toArray s = true := hts _ (List.mem_of_getElem? (i := 2) rfl)
  have wd1 : (Cond.fieldLink RX5 112 "PickSlots" "states" "I").before [.ref (h 0), .int x1].toArray s = true := hts _ (List.mem_of_getElem? (i := 1) rfl)
  have hi1 : ∀ w ∈ wsX10, w ∈ wsX5_count := fun w h => List.mem_cons_of_mem _ (List.mem_append_left _ (List.mem_append_right _ (h)))
  have hi5 : ∀ w ∈ wsX50, w ∈ wsX5_count := fun w h => List.mem_cons_of_mem _ (List.mem_append_left _ (List.mem_append_left _ (List.mem_append_right _ (h))))
  have CF : CallFix p m c cX5_count 2 s [.ref (h 0), .int x1].toArray wsX5_count RX5 := ⟨hx, hb, hml, hown, hts⟩
  have hl := lv_entry ([.ref (h 0), .int x1]) (n := 2) (Nat.le_of_ble_eq_true rfl)
  rw [lg_entry_eq]
  generalize (lg_sl ([.ref (h 0), .int x1]) ++ List.replicate (2 - (lg_sl ([.ref (h 0), .int x1])).length) Slot.unset).toArray = ls at hl ⊢
  have hl : lv_has ls 2 [(0, .ref (h 0)), (1, .int x1)] := hl
  refine lv_iload_n hx hb dX5_count_0 rfl (lv_at hl 1 rfl) ?_
  refine lv_bipush (v := 8) hx hb dX5_count_1 (by decide) ?_
  refine lv_icmp_ne (tgt := 11) hx hb dX5_count_3 (by decide) (fun c3 => ?_) (fun c3 => ?_)
  · refine lv_iload_n hx hb dX5_count_11 rfl (lv_at hl 1 rfl) ?_
    refine lv_bipush (v := 9) hx hb dX5_count_12 (by decide) ?_
    refine lv_icmp_ne (tgt := 25) hx hb dX5_count_14 (by decide) (fun c14 => ?_) (fun c14 => ?_)
    · refine lv_aload_n hx hb dX5_count_25 rfl (lv_at hl 0 rfl) ?_
      refine va_get (D := D) (ci := 4) (C := RX5) (T := TX5) (N := 9) hx hb hts hi5 hown hK hP 0 ps_0 rfl 4 (by decide) wd3 (fun _ h9 => h9) rfl dX5_count_26 ?_
      refine lv_iload_n hx hb dX5_count_29 rfl (lv_at hl 1 rfl) ?_
      refine roV CF (c_X4_numberOfWarehouse l D cI cC cW t _ _ _ _ (by assumption)) (cwV 1 hts gX5_count_X4_numberOfWarehouse rfl rfl rfl (by decide +kernel) ⟨Nat.le_of_ble_eq_true rfl, Nat.le_of_ble_eq_true rfl⟩) (vP_l (vP_perm ps_p4 hP)) hK hX hS 0 3 wg_0 rfl rfl hl.1 rfl (Nat.le_of_ble_eq_true rfl) dX5_count_30 ⟨Nat.zero_le _, Nat.zero_le _⟩ ?_
      exact ro_ret hx hb hr (Eq.trans (if_neg c3) (Eq.trans (if_neg c14) (rfl))) dX5_count_33 hlocks
    · refine lv_aload_n hx hb dX5_count_17 rfl (lv_at hl 0 rfl) ?_
      refine va_get (D := D) (ci := 4) (C := RX5) (T := TX5) (N := 9) hx hb hts hi5 hown hK hP 0 ps_0 rfl 1 (by decide) wd2 (fun _ h9 => h9) rfl dX5_count_18 ?_
      refine va_getN (D := D) (ci := 1) (C := RX1) (T := TX1) (N := 6) hx hb hts hi1 hown hK hP 2 ps_2 rfl 1 (by decide) (va_Nw.use rfl (hX.1.1 ("PickSlots", 116, "PickSlots$OrderText", "length") (List.mem_of_getElem? (i := 0) rfl))) (fun _ h9 => h9) rfl dX5_count_21 ?_
      exact ro_ret hx hb hr (Eq.trans (if_neg c3) (Eq.trans (if_pos c14) (rfl))) dX5_count_24 hlocks
  · refine lv_aload_n hx hb dX5_count_6 rfl (lv_at hl 0 rfl) ?_
    refine va_get (D := D) (ci := 4) (C := RX5) (T := TX5) (N := 9) hx hb hts hi5 hown hK hP 0 ps_0 rfl 6 (by decide) wd1 (fun _ h9 => h9) rfl dX5_count_7 ?_
    exact ro_ret hx hb hr (Eq.trans (if_pos c3) (rfl)) dX5_count_10 hlocks

def sp_X5_weekly (Y : Nat → va_H) (S : Nat → Int32) (q : Nat → Int32) (V : Nat → Int32) (z : Int32) (U : Nat → Int32) (y : Int32) (I : Nat → Int32) (x1 : Int32) : Int32 :=
  if (sp_X5_isSeason x1) = 0 then ((-1 : Int32)) else ((sp_X4_weeklyWalk (Y 4).2.1 (Y 4).2.2 x1))
set_option maxHeartbeats 4000000 in
set_option maxRecDepth 100000 in
theorem c_X5_weekly (l : Launch) (D : va_G) (cI cC cW : ClassId) (t : Nat → Nat) (h : Nat → Nat) (Y : Nat → va_H) (S : Nat → Int32) (q : Nat → Int32) (V : Nat → Int32) (z : Int32) (U : Nat → Int32) (y : Int32) (I : Nat → Int32) (x1 : Int32) (hsf : sfN (Y 4).2.1) : Met l yX5_weekly wsX5_weekly ({ frames := 3, cells := 0, slots := 0, locals := 64 }) (va_Pc [.ref (h 0), .int x1] (roP D (tyL cI cC cW) (ps cI cC cW h Y S q V z U y I) t)) (vp_Si (fun r => r = sp_X5_weekly Y S q V z U y I x1)) 0 0 (fun _ => False) := by
  refine Met.ofW (cc := cX5_weekly) (maxL := 2) (ret := (some .int)) (by decide) rfl ?_
  intro p e s m args below meth c s₁ B hml hv
  obtain ⟨rfl, hP, hK, hX⟩ := hv
  have hx := B.exec
  have hb := B.bytes
  have hr := B.returns
  have hts := atoms_spec (ws := wsX5_weekly) B.pre
  have hown : s.vm.findClass RX5 = some m.cls := findClass_of_methodNamed B.named
  have hlocks := B.notSynchronized
  have hS : va_S (fun _ => False) s.heap s.heap [] := va_S.rf
  have wd1 : (Cond.fieldLink RX5 33 "PickSlots" "now" "LPickSlots$Warehouse;").before [.ref (h 0), .int x1].toArray s = true := hts _ (List.mem_of_getElem? (i := 1) rfl)
  have hi5 : ∀ w ∈ wsX50, w ∈ wsX5_weekly := fun w h => List.mem_cons_of_mem _ (List.mem_append_left _ (List.mem_append_right _ (h)))
  have CF : CallFix p m c cX5_weekly 2 s [.ref (h 0), .int x1].toArray wsX5_weekly RX5 := ⟨hx, hb, hml, hown, hts⟩
  have hl := lv_entry ([.ref (h 0), .int x1]) (n := 2) (Nat.le_of_ble_eq_true rfl)
  rw [lg_entry_eq]
  generalize (lg_sl ([.ref (h 0), .int x1]) ++ List.replicate (2 - (lg_sl ([.ref (h 0), .int x1])).length) Slot.unset).toArray = ls at hl ⊢
  have hl : lv_has ls 2 [(0, .ref (h 0)), (1, .int x1)] := hl
  refine lv_iload_n hx hb dX5_weekly_0 rfl (lv_at hl 1 rfl) ?_
  refine roS CF (c_X5_isSeason l D cI cC cW t _ ) (va_cwS 1 hts gX5_weekly_X5_isSeason rfl rfl rfl (by decide +kernel) ⟨Nat.le_of_ble_eq_true rfl, Nat.le_of_ble_eq_true rfl⟩) vP_nil hK hX hS rfl hl.1 rfl (Nat.le_of_ble_eq_true rfl) dX5_weekly_1 ⟨Nat.zero_le _, Nat.zero_le _⟩ ?_
  refine lv_if_eq (tgt := 18) hx hb dX5_weekly_4 (by decide) (fun c4 => ?_) (fun c4 => ?_)
  · refine lv_iconst (v := -1) hx hb dX5_weekly_18 (by decide) ?_
    exact ro_ret hx hb hr (Eq.trans (if_pos c4) (rfl)) dX5_weekly_19 hlocks
  · refine lv_aload_n hx hb dX5_weekly_7 rfl (lv_at hl 0 rfl) ?_
    refine va_get (D := D) (ci := 4) (C := RX5) (T := TX5) (N := 9) hx hb hts hi5 hown hK hP 0 ps_0 rfl 4 (by decide) wd1 (fun _ h9 => h9) rfl dX5_weekly_8 ?_
    refine lv_iload_n hx hb dX5_weekly_11 rfl (lv_at hl 1 rfl) ?_
    refine roV CF (c_X4_weeklyWalk l D cI cC cW t _ _ _ _ (hsf) (sea4 c4)) (cwV 1 hts gX5_weekly_X4_weeklyWalk rfl rfl rfl (by decide +kernel) ⟨Nat.le_of_ble_eq_true rfl, Nat.le_of_ble_eq_true rfl⟩) (vP_l (vP_perm ps_p4 hP)) hK hX hS 0 3 wg_0 rfl rfl hl.1 rfl (Nat.le_of_ble_eq_true rfl) dX5_weekly_12 ⟨Nat.zero_le _, Nat.zero_le _⟩ ?_
    refine lv_goto (tgt := 19) hx hb dX5_weekly_15 (by decide) ?_
    exact ro_ret hx hb hr (Eq.trans (if_neg c4) (rfl)) dX5_weekly_19 hlocks

def sp_X5_atBest (Y : Nat → va_H) (S : Nat → Int32) (q : Nat → Int32) (V : Nat → Int32) (z : Int32) (U : Nat → Int32) (y : Int32) (I : Nat → Int32) (x1 : Int32) : Int32 × ((Nat → Int32) × Int32 × (Nat → Int32) × Int32) :=
  if (sp_X5_isSeason x1) = 0 then (((-1 : Int32), (V, z, U, y))) else (let k20_1 : Int32 × ((Nat → Int32) × Int32 × (Nat → Int32) × Int32) := sp_X4_shortestWalk (Y 4).2.1 (Y 4).2.2 V z U y x1; let V2 : Nat → Int32 := k20_1.2.1; let z3 : Int32 := k20_1.2.2.1; let U4 : Nat → Int32 := k20_1.2.2.2.1; let y5 : Int32 := k20_1.2.2.2.2; (k20_1.1, (V2, z3, U4, y5)))
set_option maxHeartbeats 4000000 in
set_option maxRecDepth 100000 in
theorem c_X5_atBest (l : Launch) (D : va_G) (cI cC cW : ClassId) (t : Nat → Nat) (h : Nat → Nat) (sz : Nat) (Y : Nat → va_H) (S : Nat → Int32) (q : Nat → Int32) (V : Nat → Int32) (z : Int32) (U : Nat → Int32) (y : Int32) (I : Nat → Int32) (x1 : Int32) (hsf : sfN (Y 4).2.1) : Met l yX5_atBest wsX5_atBest ({ frames := 3, cells := 0, slots := 0, locals := 66 }) (va_Pc [.ref (h 0), .int x1] (rwP D (tyL cI cC cW) (ps cI cC cW h Y S q V z U y I) t sz)) (va_Qi (fun (r : Int32) (u : ((Nat → Int32) × Int32 × (Nat → Int32) × Int32)) => (r, u) = sp_X5_atBest Y S q V z U y I x1) (fun u => rwB D (va_A (ps cI cC cW h Y S q V z U y I) sz) (ps cI cC cW h Y S q u.1 u.2.1 u.2.2.1 u.2.2.2 I)) (va_A (ps cI cC cW h Y S q V z U y I) sz)) 0 0 (va_A (ps cI cC cW h Y S q V z U y I) sz) := by
  refine Met.ofW (cc := cX5_atBest) (maxL := 2) (ret := (some .int)) (by decide) rfl ?_
  intro p e s m args below meth c s₁ B hml hv
  obtain ⟨rfl, hsz, hP, hK, hD0, hX⟩ := hv
  have hx := B.exec
  have hb := B.bytes
  have hr := B.returns
  have hts := atoms_spec (ws := wsX5_atBest) B.pre
  have hown : s.vm.findClass RX5 = some m.cls := findClass_of_methodNamed B.named
  have hlocks := B.notSynchronized
  subst hsz
  have hD := hD0.self (sz := s.heap.size)
  generalize hAe : va_A (ps cI cC cW h Y S q V z U y I) s.heap.size = A at hD hX ⊢
  have hA : ∀ q : Nat, s.heap.size ≤ q → A q := fun q h => by rw [← hAe]; exact Or.inr h
  have hS : va_S A s.heap s.heap [] := va_S.rf
  have wd1 : (Cond.fieldLink RX5 33 "PickSlots" "now" "LPickSlots$Warehouse;").before [.ref (h 0), .int x1].toArray s = true := hts _ (List.mem_of_getElem? (i := 1) rfl)
  have wd2 : (Cond.fieldLink RX5 25 "PickSlots" "demands" "LPickSlots$SortedRow;").before [.ref (h 0), .int x1].toArray s = true := hts _ (List.mem_of_getElem? (i := 2) rfl)
  have wd3 : (Cond.fieldLink RX5 29 "PickSlots" "walks" "LPickSlots$SortedRow;").before [.ref (h 0), .int x1].toArray s = true := hts _ (List.mem_of_getElem? (i := 3) rfl)
  have hi5 : ∀ w ∈ wsX50, w ∈ wsX5_atBest := fun w h => List.mem_cons_of_mem _ (List.mem_append_left _ (List.mem_append_left _ (List.mem_append_right _ (h))))
  have CF : CallFix p m c cX5_atBest 2 s [.ref (h 0), .int x1].toArray wsX5_atBest RX5 := ⟨hx, hb, hml, hown, hts⟩
  have hl := lv_entry ([.ref (h 0), .int x1]) (n := 2) (Nat.le_of_ble_eq_true rfl)
  rw [lg_entry_eq]
  generalize (lg_sl ([.ref (h 0), .int x1]) ++ List.replicate (2 - (lg_sl ([.ref (h 0), .int x1])).length) Slot.unset).toArray = ls at hl ⊢
  have hl : lv_has ls 2 [(0, .ref (h 0)), (1, .int x1)] := hl
  refine lv_iload_n hx hb dX5_atBest_0 rfl (lv_at hl 1 rfl) ?_
  refine roS CF (c_X5_isSeason l D cI cC cW t _ ) (va_cwS 1 hts gX5_atBest_X5_isSeason rfl rfl rfl (by decide +kernel) ⟨Nat.le_of_ble_eq_true rfl, Nat.le_of_ble_eq_true rfl⟩) vP_nil hK hX hS rfl hl.1 rfl (Nat.le_of_ble_eq_true rfl) dX5_atBest_1 ⟨Nat.zero_le _, Nat.zero_le _⟩ ?_
  refine lv_if_eq (tgt := 26) hx hb dX5_atBest_4 (by decide) (fun c4 => ?_) (fun c4 => ?_)
  · refine lv_iconst (v := -1) hx hb dX5_atBest_26 (by decide) ?_
    exact rw_ret (_, _, _, _) hx hb hr hP hD hS (Eq.trans (if_pos c4) (rfl)) dX5_atBest_27 hlocks
  · refine lv_aload_n hx hb dX5_atBest_7 rfl (lv_at hl 0 rfl) ?_
    refine va_get (D := D) (ci := 4) (C := RX5) (T := TX5) (N := 9) hx hb hts hi5 hown hK hP 0 ps_0 rfl 4 (by decide) wd1 (fun _ h9 => h9) rfl dX5_atBest_8 ?_
    refine lv_iload_n hx hb dX5_atBest_11 rfl (lv_at hl 1 rfl) ?_
    refine lv_aload_n hx hb dX5_atBest_12 rfl (lv_at hl 0 rfl) ?_
    refine va_get (D := D) (ci := 4) (C := RX5) (T := TX5) (N := 9) hx hb hts hi5 hown hK hP 0 ps_0 rfl 2 (by decide) wd2 (fun _ h9 => h9) rfl dX5_atBest_13 ?_
    refine lv_aload_n hx hb dX5_atBest_16 rfl (lv_at hl 0 rfl) ?_
    refine va_get (D := D) (ci := 4) (C := RX5) (T := TX5) (N := 9) hx hb hts hi5 hown hK hP 0 ps_0 rfl 3 (by decide) wd3 (fun _ h9 => h9) rfl dX5_atBest_17 ?_
    refine rwVs ps_psw ps_qsw CF (c_X4_shortestWalk l D cI cC cW t _ _ _ _ _ _ _ _ _ _ _ (hsf) (sea4 c4)) (cwV 3 hts gX5_atBest_X4_shortestWalk rfl rfl rfl (by decide +kernel) ⟨Nat.le_of_ble_eq_true rfl, Nat.le_of_ble_eq_true rfl⟩) hP hD hK hX hS hA 0 3 sw_0 rfl rfl hl.1 rfl (Nat.le_of_ble_eq_true rfl) dX5_atBest_20 ⟨Nat.zero_le _, Nat.zero_le _⟩ (fun H locs hP hD hS => ?_)
    refine lv_goto (tgt := 27) hx hb dX5_atBest_23 (by decide) ?_
    exact rw_ret (_, _, _, _) hx hb hr hP hD hS (Eq.trans (if_neg c4) (rfl)) dX5_atBest_27 hlocks

def sp_X5_type (Y : Nat → va_H) (S : Nat → Int32) (q : Nat → Int32) (V : Nat → Int32) (z : Int32) (U : Nat → Int32) (y : Int32) (I : Nat → Int32) (x1 : Int32) : Int32 × ((Nat → Int32) × (Nat → Int32)) :=
  let k5_1 : Int32 × ((Nat → Int32) × (Nat → Int32)) := sp_X1_append S q x1; let S2 : Nat → Int32 := k5_1.2.1; let q3 : Nat → Int32 := k5_1.2.2; (k5_1.1, (S2, q3))
set_option maxHeartbeats 4000000 in
set_option maxRecDepth 100000 in
theorem c_X5_type (l : Launch) (D : va_G) (cI cC cW : ClassId) (t : Nat → Nat) (h : Nat → Nat) (sz : Nat) (Y : Nat → va_H) (S : Nat → Int32) (q : Nat → Int32) (V : Nat → Int32) (z : Int32) (U : Nat → Int32) (y : Int32) (I : Nat → Int32) (x1 : Int32) (hln : 0 ≤ (q 0).toInt) : Met l yX5_type wsX5_type ({ frames := 2, cells := 0, slots := 0, locals := 43 }) (va_Pc [.ref (h 0), .int x1] (rwP D (tyL cI cC cW) (ps cI cC cW h Y S q V z U y I) t sz)) (va_Qi (fun (r : Int32) (u : ((Nat → Int32) × (Nat → Int32))) => (r, u) = sp_X5_type Y S q V z U y I x1) (fun u => rwB D (va_A (ps cI cC cW h Y S q V z U y I) sz) (ps cI cC cW h Y u.1 u.2 V z U y I)) (va_A (ps cI cC cW h Y S q V z U y I) sz)) 0 0 (va_A (ps cI cC cW h Y S q V z U y I) sz) := by
  refine Met.ofW (cc := cX5_type) (maxL := 2) (ret := (some .int)) (by decide) rfl ?_
  intro p e s m args below meth c s₁ B hml hv
  obtain ⟨rfl, hsz, hP, hK, hD0, hX⟩ := hv
  have hx := B.exec
  have hb := B.bytes
  have hr := B.returns
  have hts := atoms_spec (ws := wsX5_type) B.pre
  have hown : s.vm.findClass RX5 = some m.cls := findClass_of_methodNamed B.named
  have hlocks := B.notSynchronized
  subst hsz
  have hD := hD0.self (sz := s.heap.size)
  generalize hAe : va_A (ps cI cC cW h Y S q V z U y I) s.heap.size = A at hD hX ⊢
  have hA : ∀ q : Nat, s.heap.size ≤ q → A q := fun q h => by rw [← hAe]; exact Or.inr h
  have hS : va_S A s.heap s.heap [] := va_S.rf
  have wd1 : (Cond.fieldLink RX5 18 "PickSlots" "text" "LPickSlots$OrderText;").before [.ref (h 0), .int x1].toArray s = true := hts _ (List.mem_of_getElem? (i := 1) rfl)
  have hi5 : ∀ w ∈ wsX50, w ∈ wsX5_type := fun w h => List.mem_cons_of_mem _ (List.mem_append_left _ (List.mem_append_right _ (h)))
  have CF : CallFix p m c cX5_type 2 s [.ref (h 0), .int x1].toArray wsX5_type RX5 := ⟨hx, hb, hml, hown, hts⟩
  have hl := lv_entry ([.ref (h 0), .int x1]) (n := 2) (Nat.le_of_ble_eq_true rfl)
  rw [lg_entry_eq]
  generalize (lg_sl ([.ref (h 0), .int x1]) ++ List.replicate (2 - (lg_sl ([.ref (h 0), .int x1])).length) Slot.unset).toArray = ls at hl ⊢
  have hl : lv_has ls 2 [(0, .ref (h 0)), (1, .int x1)] := hl
  refine lv_aload_n hx hb dX5_type_0 rfl (lv_at hl 0 rfl) ?_
  refine va_get (D := D) (ci := 4) (C := RX5) (T := TX5) (N := 9) hx hb hts hi5 hown hK hP 0 ps_0 rfl 1 (by decide) wd1 (fun _ h9 => h9) rfl dX5_type_1 ?_
  refine lv_iload_n hx hb dX5_type_4 rfl (lv_at hl 1 rfl) ?_
  refine rwVs ps_pt ps_qT CF (c_X1_append l D cI cC cW t _ _ _ _ _ (by assumption)) (cwV 1 hts gX5_type_X1_append rfl rfl rfl (by decide +kernel) ⟨Nat.le_of_ble_eq_true rfl, Nat.le_of_ble_eq_true rfl⟩) hP hD hK hX hS hA 0 1 tx_0 rfl rfl hl.1 rfl (Nat.le_of_ble_eq_true rfl) dX5_type_5 ⟨Nat.zero_le _, Nat.zero_le _⟩ (fun H locs hP hD hS => ?_)
  exact rw_ret (_, _) hx hb hr hP hD hS (rfl) dX5_type_8 hlocks

def sp_X5_hasGoodsAndSlots (Y : Nat → va_H) (S : Nat → Int32) (q : Nat → Int32) (V : Nat → Int32) (z : Int32) (U : Nat → Int32) (y : Int32) (I : Nat → Int32) (x1 x2 x3 : Int32) : Int32 :=
  if x1 = (109 : Int32) then (if (sp_X4_isGood (Y 5).2.1 (Y 5).2.2 x2) = 0 then ((0 : Int32)) else (if (sp_X2_isSlot x3) = 0 then ((0 : Int32)) else ((1 : Int32)))) else (if x1 = (119 : Int32) then ((1 : Int32)) else (if x1 = (120 : Int32) then (if (sp_X4_isGood (Y 5).2.1 (Y 5).2.2 x2) = 0 then ((0 : Int32)) else (if (sp_X4_isGood (Y 5).2.1 (Y 5).2.2 x3) = 0 then ((0 : Int32)) else ((1 : Int32)))) else ((sp_X4_isGood (Y 5).2.1 (Y 5).2.2 x2))))
set_option maxHeartbeats 4000000 in
set_option maxRecDepth 100000 in
theorem c_X5_hasGoodsAndSlots (l : Launch) (D : va_G) (cI cC cW : ClassId) (t : Nat → Nat) (h : Nat → Nat) (Y : Nat → va_H) (S : Nat → Int32) (q : Nat → Int32) (V : Nat → Int32) (z : Int32) (U : Nat → Int32) (y : Int32) (I : Nat → Int32) (x1 x2 x3 : Int32)  : Met l yX5_hasGoodsAndSlots wsX5_hasGoodsAndSlots ({ frames := 1, cells := 0, slots := 0, locals := 21 }) (va_Pc [.ref (h 0), .int x1, .int x2, .int x3] (roP D (tyL cI cC cW) (ps cI cC cW h Y S q V z U y I) t)) (vp_Si (fun r => r = sp_X5_hasGoodsAndSlots Y S q V z U y I x1 x2 x3)) 0 0 (fun _ => False) := by
  refine Met.ofW (cc := cX5_hasGoodsAndSlots) (maxL := 4) (ret := (some .boolean)) (by decide) rfl ?_
  intro p e s m args below meth c s₁ B hml hv
  obtain ⟨rfl, hP, hK, hX⟩ := hv
  have hx := B.exec
  have hb := B.bytes
  have hr := B.returns
  have hts := atoms_spec (ws := wsX5_hasGoodsAndSlots) B.pre
  have hown : s.vm.findClass RX5 = some m.cls := findClass_of_methodNamed B.named
  have hlocks := B.notSynchronized
  have hS : va_S (fun _ => False) s.heap s.heap [] := va_S.rf
  have wd1 : (Cond.fieldLink RX5 37 "PickSlots" "trial" "LPickSlots$Warehouse;").before [.ref (h 0), .int x1, .int x2, .int x3].toArray s = true := hts _ (List.mem_of_getElem? (i := 1) rfl)
  have hi5 : ∀ w ∈ wsX50, w ∈ wsX5_hasGoodsAndSlots := fun w h => List.mem_cons_of_mem _ (List.mem_append_left _ (List.mem_append_right _ (h)))
  have CF : CallFix p m c cX5_hasGoodsAndSlots 4 s [.ref (h 0), .int x1, .int x2, .int x3].toArray wsX5_hasGoodsAndSlots RX5 := ⟨hx, hb, hml, hown, hts⟩
  have hl := lv_entry ([.ref (h 0), .int x1, .int x2, .int x3]) (n := 4) (Nat.le_of_ble_eq_true rfl)
  rw [lg_entry_eq]
  generalize (lg_sl ([.ref (h 0), .int x1, .int x2, .int x3]) ++ List.replicate (4 - (lg_sl ([.ref (h 0), .int x1, .int x2, .int x3])).length) Slot.unset).toArray = ls at hl ⊢
  have hl : lv_has ls 4 [(0, .ref (h 0)), (1, .int x1), (2, .int x2), (3, .int x3)] := hl
  refine lv_iload_n hx hb dX5_hasGoodsAndSlots_0 rfl (lv_at hl 1 rfl) ?_
  by_cases c1_109 : x1 = (109 : Int32)
  · refine lv_lookup (off := 37) (tgt := 38) hx hb dX5_hasGoodsAndSlots_1 (by decide) (by rw [c1_109]; first | done | rfl) (by decide) ?_
    refine lv_aload_n hx hb dX5_hasGoodsAndSlots_38 rfl (lv_at hl 0 rfl) ?_
    refine va_get (D := D) (ci := 4) (C := RX5) (T := TX5) (N := 9) hx hb hts hi5 hown hK hP 0 ps_0 rfl 5 (by decide) wd1 (fun _ h9 => h9) rfl dX5_hasGoodsAndSlots_39 ?_
    refine lv_iload_n hx hb dX5_hasGoodsAndSlots_42 rfl (lv_at hl 2 rfl) ?_
    refine roV CF (c_X4_isGood l D cI cC cW t _ _ _ _ ) (cwV 1 hts gX5_hasGoodsAndSlots_X4_isGood rfl rfl rfl (by decide +kernel) ⟨Nat.le_of_ble_eq_true rfl, Nat.le_of_ble_eq_true rfl⟩) (vP_l (vP_perm ps_p5 hP)) hK hX hS 0 3 wg_0 rfl rfl hl.1 rfl (Nat.le_of_ble_eq_true rfl) dX5_hasGoodsAndSlots_43 ⟨Nat.zero_le _, Nat.zero_le _⟩ ?_
    refine lv_if_eq (tgt := 60) hx hb dX5_hasGoodsAndSlots_46 (by decide) (fun c46 => ?_) (fun c46 => ?_)
    · refine lv_iconst (v := 0) hx hb dX5_hasGoodsAndSlots_60 (by decide) ?_
      exact ro_zret hx hb hr (rfl) (Eq.trans (if_pos c1_109) (Eq.trans (if_pos c46) (rfl))) dX5_hasGoodsAndSlots_61 hlocks
    · refine lv_iload_n hx hb dX5_hasGoodsAndSlots_49 rfl (lv_at hl 3 rfl) ?_
      refine roS CF (c_X2_isSlot l D cI cC cW t _ ) (va_cwS 1 hts gX5_hasGoodsAndSlots_X2_isSlot rfl rfl rfl (by decide +kernel) ⟨Nat.le_of_ble_eq_true rfl, Nat.le_of_ble_eq_true rfl⟩) vP_nil hK hX hS rfl hl.1 rfl (Nat.le_of_ble_eq_true rfl) dX5_hasGoodsAndSlots_50 ⟨Nat.zero_le _, Nat.zero_le _⟩ ?_
      refine lv_if_eq (tgt := 60) hx hb dX5_hasGoodsAndSlots_53 (by decide) (fun c53 => ?_) (fun c53 => ?_)
      · refine lv_iconst (v := 0) hx hb dX5_hasGoodsAndSlots_60 (by decide) ?_
        exact ro_zret hx hb hr (rfl) (Eq.trans (if_pos c1_109) (Eq.trans (if_neg c46) (Eq.trans (if_pos c53) (rfl)))) dX5_hasGoodsAndSlots_61 hlocks
      · refine lv_iconst (v := 1) hx hb dX5_hasGoodsAndSlots_56 (by decide) ?_
        refine lv_goto (tgt := 61) hx hb dX5_hasGoodsAndSlots_57 (by decide) ?_
        exact ro_zret hx hb hr (rfl) (Eq.trans (if_pos c1_109) (Eq.trans (if_neg c46) (Eq.trans (if_neg c53) (rfl)))) dX5_hasGoodsAndSlots_61 hlocks
  · by_cases c1_119 : x1 = (119 : Int32)
    · refine lv_lookup (off := 35) (tgt := 36) hx hb dX5_hasGoodsAndSlots_1 (by decide) (by rw [c1_119]; first | done | rfl) (by decide) ?_
      refine lv_iconst (v := 1) hx hb dX5_hasGoodsAndSlots_36 (by decide) ?_
      exact ro_zret hx hb hr (rfl) (Eq.trans (if_neg c1_109) (Eq.trans (if_pos c1_119) (rfl))) dX5_hasGoodsAndSlots_37 hlocks
    · by_cases c1_120 : x1 = (120 : Int32)
      · refine lv_lookup (off := 61) (tgt := 62) hx hb dX5_hasGoodsAndSlots_1 (by decide) (by rw [c1_120]; first | done | rfl) (by decide) ?_
        refine lv_aload_n hx hb dX5_hasGoodsAndSlots_62 rfl (lv_at hl 0 rfl) ?_
        refine va_get (D := D) (ci := 4) (C := RX5) (T := TX5) (N := 9) hx hb hts hi5 hown hK hP 0 ps_0 rfl 5 (by decide) wd1 (fun _ h9 => h9) rfl dX5_hasGoodsAndSlots_63 ?_
        refine lv_iload_n hx hb dX5_hasGoodsAndSlots_66 rfl (lv_at hl 2 rfl) ?_
        refine roV CF (c_X4_isGood l D cI cC cW t _ _ _ _ ) (cwV 1 hts gX5_hasGoodsAndSlots_X4_isGood rfl rfl rfl (by decide +kernel) ⟨Nat.le_of_ble_eq_true rfl, Nat.le_of_ble_eq_true rfl⟩) (vP_l (vP_perm ps_p5 hP)) hK hX hS 0 3 wg_0 rfl rfl hl.1 rfl (Nat.le_of_ble_eq_true rfl) dX5_hasGoodsAndSlots_67 ⟨Nat.zero_le _, Nat.zero_le _⟩ ?_
        refine lv_if_eq (tgt := 88) hx hb dX5_hasGoodsAndSlots_70 (by decide) (fun c70 => ?_) (fun c70 => ?_)
        · refine lv_iconst (v := 0) hx hb dX5_hasGoodsAndSlots_88 (by decide) ?_
          exact ro_zret hx hb hr (rfl) (Eq.trans (if_neg c1_109) (Eq.trans (if_neg c1_119) (Eq.trans (if_pos c1_120) (Eq.trans (if_pos c70) (rfl))))) dX5_hasGoodsAndSlots_89 hlocks
        · refine lv_aload_n hx hb dX5_hasGoodsAndSlots_73 rfl (lv_at hl 0 rfl) ?_
          refine va_get (D := D) (ci := 4) (C := RX5) (T := TX5) (N := 9) hx hb hts hi5 hown hK hP 0 ps_0 rfl 5 (by decide) wd1 (fun _ h9 => h9) rfl dX5_hasGoodsAndSlots_74 ?_
          refine lv_iload_n hx hb dX5_hasGoodsAndSlots_77 rfl (lv_at hl 3 rfl) ?_
          refine roV CF (c_X4_isGood l D cI cC cW t _ _ _ _ ) (cwV 1 hts gX5_hasGoodsAndSlots_X4_isGood rfl rfl rfl (by decide +kernel) ⟨Nat.le_of_ble_eq_true rfl, Nat.le_of_ble_eq_true rfl⟩) (vP_l (vP_perm ps_p5 hP)) hK hX hS 0 3 wg_0 rfl rfl hl.1 rfl (Nat.le_of_ble_eq_true rfl) dX5_hasGoodsAndSlots_78 ⟨Nat.zero_le _, Nat.zero_le _⟩ ?_
          refine lv_if_eq (tgt := 88) hx hb dX5_hasGoodsAndSlots_81 (by decide) (fun c81 => ?_) (fun c81 => ?_)
          · refine lv_iconst (v := 0) hx hb dX5_hasGoodsAndSlots_88 (by decide) ?_
            exact ro_zret hx hb hr (rfl) (Eq.trans (if_neg c1_109) (Eq.trans (if_neg c1_119) (Eq.trans (if_pos c1_120) (Eq.trans (if_neg c70) (Eq.trans (if_pos c81) (rfl)))))) dX5_hasGoodsAndSlots_89 hlocks
          · refine lv_iconst (v := 1) hx hb dX5_hasGoodsAndSlots_84 (by decide) ?_
            refine lv_goto (tgt := 89) hx hb dX5_hasGoodsAndSlots_85 (by decide) ?_
            exact ro_zret hx hb hr (rfl) (Eq.trans (if_neg c1_109) (Eq.trans (if_neg c1_119) (Eq.trans (if_pos c1_120) (Eq.trans (if_neg c70) (Eq.trans (if_neg c81) (rfl)))))) dX5_hasGoodsAndSlots_89 hlocks
      · refine lv_lookup (off := 89) (tgt := 90) hx hb dX5_hasGoodsAndSlots_1 (by decide) ((lv_osw c1_109 (by decide)).trans ((lv_osw c1_119 (by decide)).trans ((lv_osw c1_120 (by decide)).trans (rfl)))) (by decide) ?_
        refine lv_aload_n hx hb dX5_hasGoodsAndSlots_90 rfl (lv_at hl 0 rfl) ?_
        refine va_get (D := D) (ci := 4) (C := RX5) (T := TX5) (N := 9) hx hb hts hi5 hown hK hP 0 ps_0 rfl 5 (by decide) wd1 (fun _ h9 => h9) rfl dX5_hasGoodsAndSlots_91 ?_
        refine lv_iload_n hx hb dX5_hasGoodsAndSlots_94 rfl (lv_at hl 2 rfl) ?_
        refine roV CF (c_X4_isGood l D cI cC cW t _ _ _ _ ) (cwV 1 hts gX5_hasGoodsAndSlots_X4_isGood rfl rfl rfl (by decide +kernel) ⟨Nat.le_of_ble_eq_true rfl, Nat.le_of_ble_eq_true rfl⟩) (vP_l (vP_perm ps_p5 hP)) hK hX hS 0 3 wg_0 rfl rfl hl.1 rfl (Nat.le_of_ble_eq_true rfl) dX5_hasGoodsAndSlots_95 ⟨Nat.zero_le _, Nat.zero_le _⟩ ?_
        exact ro_zret hx hb hr (zb_X4_isGood) (Eq.trans (if_neg c1_109) (Eq.trans (if_neg c1_119) (Eq.trans (if_neg c1_120) (rfl)))) dX5_hasGoodsAndSlots_98 hlocks
theorem zb_X5_hasGoodsAndSlots {Y : Nat → va_H} {S : Nat → Int32} {q : Nat → Int32} {V : Nat → Int32} {z : Int32} {U : Nat → Int32} {y : Int32} {I : Nat → Int32} {x1 x2 x3 : Int32} : narrow .boolean (.int (sp_X5_hasGoodsAndSlots Y S q V z U y I x1 x2 x3)) = .int (sp_X5_hasGoodsAndSlots Y S q V z U y I x1 x2 x3) := by
  unfold sp_X5_hasGoodsAndSlots
  (repeat' split) <;> first | (with_reducible exact zb_X2_isSlot) | (with_reducible exact zb_X4_isGood) | rfl

def sp_X5_doOrder (Y : Nat → va_H) (S : Nat → Int32) (q : Nat → Int32) (V : Nat → Int32) (z : Int32) (U : Nat → Int32) (y : Int32) (I : Nat → Int32) (x1 x2 x3 : Int32) : Int32 × (Nat → va_H) :=
  if x1 = (109 : Int32) then (let k69_1 : Int32 × ((Nat → Int32) × (Nat → Int32)) := sp_X4_moveGood (Y 5).2.1 (Y 5).2.2 x2 x3; let Y2 : Nat → va_H := w5 Y k69_1.2.1 k69_1.2.2; (k69_1.1, Y2)) else (if x1 = (112 : Int32) then (let k50_1 : Int32 × ((Nat → Int32) × (Nat → Int32)) := sp_X4_pickUnits (Y 5).2.1 (Y 5).2.2 x2 x3; let Y2 : Nat → va_H := w5 Y k50_1.2.1 k50_1.2.2; (k50_1.1, Y2)) else (if x1 = (114 : Int32) then (let k59_1 : Int32 × ((Nat → Int32) × (Nat → Int32)) := sp_X4_refillSlot (Y 5).2.1 (Y 5).2.2 x2; let Y2 : Nat → va_H := w5 Y k59_1.2.1 k59_1.2.2; (k59_1.1, Y2)) else (if x1 = (120 : Int32) then (let k79_1 : Int32 × ((Nat → Int32) × (Nat → Int32)) := sp_X4_exchangeGoods (Y 5).2.1 (Y 5).2.2 x2 x3; let Y2 : Nat → va_H := w5 Y k79_1.2.1 k79_1.2.2; (k79_1.1, Y2)) else (let k87_1 : Int32 × ((Nat → Int32) × (Nat → Int32)) := sp_X4_finishWeek (Y 5).2.1 (Y 5).2.2; let Y2 : Nat → va_H := w5 Y k87_1.2.1 k87_1.2.2; (k87_1.1, Y2)))))
set_option maxHeartbeats 4000000 in
set_option maxRecDepth 100000 in
theorem c_X5_doOrder (l : Launch) (D : va_G) (cI cC cW : ClassId) (t : Nat → Nat) (h : Nat → Nat) (sz : Nat) (Y : Nat → va_H) (S : Nat → Int32) (q : Nat → Int32) (V : Nat → Int32) (z : Int32) (U : Nat → Int32) (y : Int32) (I : Nat → Int32) (x1 x2 x3 : Int32) (hs5 : sfN (Y 5).2.1) : Met l yX5_doOrder wsX5_doOrder ({ frames := 5, cells := 0, slots := 0, locals := 107 }) (va_Pc [.ref (h 0), .int x1, .int x2, .int x3] (rwP D (tyL cI cC cW) (ps cI cC cW h Y S q V z U y I) t sz)) (va_Qi (fun (r : Int32) (u : Nat → va_H) => (r, u) = sp_X5_doOrder Y S q V z U y I x1 x2 x3) (fun u => rwB D (va_A (ps cI cC cW h Y S q V z U y I) sz) (ps cI cC cW h u S q V z U y I)) (va_A (ps cI cC cW h Y S q V z U y I) sz)) 0 0 (va_A (ps cI cC cW h Y S q V z U y I) sz) := by
  refine Met.ofW (cc := cX5_doOrder) (maxL := 4) (ret := (some .int)) (by decide) rfl ?_
  intro p e s m args below meth c s₁ B hml hv
  obtain ⟨rfl, hsz, hP, hK, hD0, hX⟩ := hv
  have hx := B.exec
  have hb := B.bytes
  have hr := B.returns
  have hts := atoms_spec (ws := wsX5_doOrder) B.pre
  have hown : s.vm.findClass RX5 = some m.cls := findClass_of_methodNamed B.named
  have hlocks := B.notSynchronized
  subst hsz
  have hD := hD0.self (sz := s.heap.size)
  generalize hAe : va_A (ps cI cC cW h Y S q V z U y I) s.heap.size = A at hD hX ⊢
  have hA : ∀ q : Nat, s.heap.size ≤ q → A q := fun q h => by rw [← hAe]; exact Or.inr h
  have hS : va_S A s.heap s.heap [] := va_S.rf
  have wd1 : (Cond.fieldLink RX5 37 "PickSlots" "trial" "LPickSlots$Warehouse;").before [.ref (h 0), .int x1, .int x2, .int x3].toArray s = true := hts _ (List.mem_of_getElem? (i := 1) rfl)
  have hi5 : ∀ w ∈ wsX50, w ∈ wsX5_doOrder := fun w h => List.mem_cons_of_mem _ (List.mem_append_left _ (List.mem_append_left _ (List.mem_append_right _ (h))))
  have CF : CallFix p m c cX5_doOrder 4 s [.ref (h 0), .int x1, .int x2, .int x3].toArray wsX5_doOrder RX5 := ⟨hx, hb, hml, hown, hts⟩
  have hl := lv_entry ([.ref (h 0), .int x1, .int x2, .int x3]) (n := 4) (Nat.le_of_ble_eq_true rfl)
  rw [lg_entry_eq]
  generalize (lg_sl ([.ref (h 0), .int x1, .int x2, .int x3]) ++ List.replicate (4 - (lg_sl ([.ref (h 0), .int x1, .int x2, .int x3])).length) Slot.unset).toArray = ls at hl ⊢
  have hl : lv_has ls 4 [(0, .ref (h 0)), (1, .int x1), (2, .int x2), (3, .int x3)] := hl
  refine lv_iload_n hx hb dX5_doOrder_0 rfl (lv_at hl 1 rfl) ?_
  by_cases c1_109 : x1 = (109 : Int32)
  · refine lv_lookup (off := 62) (tgt := 63) hx hb dX5_doOrder_1 (by decide) (by rw [c1_109]; first | done | rfl) (by decide) ?_
    refine lv_aload_n hx hb dX5_doOrder_63 rfl (lv_at hl 0 rfl) ?_
    refine va_get (D := D) (ci := 4) (C := RX5) (T := TX5) (N := 9) hx hb hts hi5 hown hK hP 0 ps_0 rfl 5 (by decide) wd1 (fun _ h9 => h9) rfl dX5_doOrder_64 ?_
    refine lv_iload_n hx hb dX5_doOrder_67 rfl (lv_at hl 2 rfl) ?_
    refine lv_iload_n hx hb dX5_doOrder_68 rfl (lv_at hl 3 rfl) ?_
    refine rwVs ps_p5 ps_q5 CF (c_X4_moveGood l D cI cC cW t _ _ _ _ _ _ (by assumption)) (cwV 2 hts gX5_doOrder_X4_moveGood rfl rfl rfl (by decide +kernel) ⟨Nat.le_of_ble_eq_true rfl, Nat.le_of_ble_eq_true rfl⟩) hP hD hK hX hS hA 0 3 wg_0 rfl rfl hl.1 rfl (Nat.le_of_ble_eq_true rfl) dX5_doOrder_69 ⟨Nat.zero_le _, Nat.zero_le _⟩ (fun H locs hP hD hS => ?_)
    exact rw_ret _ hx hb hr hP hD hS (Eq.trans (if_pos c1_109) (rfl)) dX5_doOrder_72 hlocks
  · by_cases c1_112 : x1 = (112 : Int32)
    · refine lv_lookup (off := 43) (tgt := 44) hx hb dX5_doOrder_1 (by decide) (by rw [c1_112]; first | done | rfl) (by decide) ?_
      refine lv_aload_n hx hb dX5_doOrder_44 rfl (lv_at hl 0 rfl) ?_
      refine va_get (D := D) (ci := 4) (C := RX5) (T := TX5) (N := 9) hx hb hts hi5 hown hK hP 0 ps_0 rfl 5 (by decide) wd1 (fun _ h9 => h9) rfl dX5_doOrder_45 ?_
      refine lv_iload_n hx hb dX5_doOrder_48 rfl (lv_at hl 2 rfl) ?_
      refine lv_iload_n hx hb dX5_doOrder_49 rfl (lv_at hl 3 rfl) ?_
      refine rwVs ps_p5 ps_q5 CF (c_X4_pickUnits l D cI cC cW t _ _ _ _ _ _ (by assumption)) (cwV 2 hts gX5_doOrder_X4_pickUnits rfl rfl rfl (by decide +kernel) ⟨Nat.le_of_ble_eq_true rfl, Nat.le_of_ble_eq_true rfl⟩) hP hD hK hX hS hA 0 3 wg_0 rfl rfl hl.1 rfl (Nat.le_of_ble_eq_true rfl) dX5_doOrder_50 ⟨Nat.zero_le _, Nat.zero_le _⟩ (fun H locs hP hD hS => ?_)
      exact rw_ret _ hx hb hr hP hD hS (Eq.trans (if_neg c1_109) (Eq.trans (if_pos c1_112) (rfl))) dX5_doOrder_53 hlocks
    · by_cases c1_114 : x1 = (114 : Int32)
      · refine lv_lookup (off := 53) (tgt := 54) hx hb dX5_doOrder_1 (by decide) (by rw [c1_114]; first | done | rfl) (by decide) ?_
        refine lv_aload_n hx hb dX5_doOrder_54 rfl (lv_at hl 0 rfl) ?_
        refine va_get (D := D) (ci := 4) (C := RX5) (T := TX5) (N := 9) hx hb hts hi5 hown hK hP 0 ps_0 rfl 5 (by decide) wd1 (fun _ h9 => h9) rfl dX5_doOrder_55 ?_
        refine lv_iload_n hx hb dX5_doOrder_58 rfl (lv_at hl 2 rfl) ?_
        refine rwVs ps_p5 ps_q5 CF (c_X4_refillSlot l D cI cC cW t _ _ _ _ _ (by assumption)) (cwV 1 hts gX5_doOrder_X4_refillSlot rfl rfl rfl (by decide +kernel) ⟨Nat.le_of_ble_eq_true rfl, Nat.le_of_ble_eq_true rfl⟩) hP hD hK hX hS hA 0 3 wg_0 rfl rfl hl.1 rfl (Nat.le_of_ble_eq_true rfl) dX5_doOrder_59 ⟨Nat.zero_le _, Nat.zero_le _⟩ (fun H locs hP hD hS => ?_)
        exact rw_ret _ hx hb hr hP hD hS (Eq.trans (if_neg c1_109) (Eq.trans (if_neg c1_112) (Eq.trans (if_pos c1_114) (rfl)))) dX5_doOrder_62 hlocks
      · by_cases c1_120 : x1 = (120 : Int32)
        · refine lv_lookup (off := 72) (tgt := 73) hx hb dX5_doOrder_1 (by decide) (by rw [c1_120]; first | done | rfl) (by decide) ?_
          refine lv_aload_n hx hb dX5_doOrder_73 rfl (lv_at hl 0 rfl) ?_
          refine va_get (D := D) (ci := 4) (C := RX5) (T := TX5) (N := 9) hx hb hts hi5 hown hK hP 0 ps_0 rfl 5 (by decide) wd1 (fun _ h9 => h9) rfl dX5_doOrder_74 ?_
          refine lv_iload_n hx hb dX5_doOrder_77 rfl (lv_at hl 2 rfl) ?_
          refine lv_iload_n hx hb dX5_doOrder_78 rfl (lv_at hl 3 rfl) ?_
          refine rwVs ps_p5 ps_q5 CF (c_X4_exchangeGoods l D cI cC cW t _ _ _ _ _ _ (by assumption)) (cwV 2 hts gX5_doOrder_X4_exchangeGoods rfl rfl rfl (by decide +kernel) ⟨Nat.le_of_ble_eq_true rfl, Nat.le_of_ble_eq_true rfl⟩) hP hD hK hX hS hA 0 3 wg_0 rfl rfl hl.1 rfl (Nat.le_of_ble_eq_true rfl) dX5_doOrder_79 ⟨Nat.zero_le _, Nat.zero_le _⟩ (fun H locs hP hD hS => ?_)
          exact rw_ret _ hx hb hr hP hD hS (Eq.trans (if_neg c1_109) (Eq.trans (if_neg c1_112) (Eq.trans (if_neg c1_114) (Eq.trans (if_pos c1_120) (rfl))))) dX5_doOrder_82 hlocks
        · refine lv_lookup (off := 82) (tgt := 83) hx hb dX5_doOrder_1 (by decide) ((lv_osw c1_109 (by decide)).trans ((lv_osw c1_112 (by decide)).trans ((lv_osw c1_114 (by decide)).trans ((lv_osw c1_120 (by decide)).trans (rfl))))) (by decide) ?_
          refine lv_aload_n hx hb dX5_doOrder_83 rfl (lv_at hl 0 rfl) ?_
          refine va_get (D := D) (ci := 4) (C := RX5) (T := TX5) (N := 9) hx hb hts hi5 hown hK hP 0 ps_0 rfl 5 (by decide) wd1 (fun _ h9 => h9) rfl dX5_doOrder_84 ?_
          refine rwVs ps_p5 ps_q5 CF (c_X4_finishWeek l D cI cC cW t _ _ _ _  (by assumption)) (cwV 0 hts gX5_doOrder_X4_finishWeek rfl rfl rfl (by decide +kernel) ⟨Nat.le_of_ble_eq_true rfl, Nat.le_of_ble_eq_true rfl⟩) hP hD hK hX hS hA 0 3 wg_0 rfl rfl hl.1 rfl (Nat.le_of_ble_eq_true rfl) dX5_doOrder_87 ⟨Nat.zero_le _, Nat.zero_le _⟩ (fun H locs hP hD hS => ?_)
          exact rw_ret _ hx hb hr hP hD hS (Eq.trans (if_neg c1_109) (Eq.trans (if_neg c1_112) (Eq.trans (if_neg c1_114) (Eq.trans (if_neg c1_120) (rfl))))) dX5_doOrder_90 hlocks
