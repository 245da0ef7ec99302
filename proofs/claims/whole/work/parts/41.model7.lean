/-! the model: faults, playing (printed by wip/whole/m10.py) -/
def sp_X6_fault (N : Nat → Int32) (Z : Nat → Nat → Int32) (x1 : Int32) : Int32 × ((Nat → Int32) × (Nat → Nat → Int32)) :=
  if (sp_X6_in x1 (0 : Int32) (1 : Int32)) = 0 then (((-1 : Int32), (N, Z))) else (let k12_1 : Int32 × ((Nat → Int32) × (Nat → Nat → Int32)) := sp_X6_looks N Z; let N2 : Nat → Int32 := k12_1.2.1; let Z3 : Nat → Nat → Int32 := k12_1.2.2; if k12_1.1 = 0 then (((-4 : Int32), (N2, Z3))) else (if x1 = 0 then (((Z3 0 10), (N2, Z3))) else ((k12_1.1, (N2, Z3)))))
set_option maxHeartbeats 4000000 in
set_option maxRecDepth 100000 in
theorem c_X6_fault (l : Launch) (D : va_G) (cI cC cW : ClassId) (t : Nat → Nat) (a : Nat → Nat) (sz : Nat) (N : Nat → Int32) (Z : Nat → Nat → Int32) (x1 : Int32) (hsf : sfN N) (hld : ¬ N 3 = 0) (hty : tyZ Z) : Met l yX6_fault wsX6_fault ({ frames := 7, cells := 0, slots := 0, locals := 157 }) (va_Pc [.ref (a 0), .int x1] (rwP D (tyL cI cC cW) (md cI a N Z) t sz)) (va_Qi (fun (r : Int32) (u : ((Nat → Int32) × (Nat → Nat → Int32))) => (r, u) = sp_X6_fault N Z x1) (fun u => rwB D (va_A (md cI a N Z) sz) (md cI a u.1 u.2)) (va_A (md cI a N Z) sz)) 0 0 (va_A (md cI a N Z) sz) := by
  refine Met.ofW (cc := cX6_fault) (maxL := 3) (ret := (some .int)) (by decide) rfl ?_
  intro p e s m args below meth c s₁ B hml hv
  obtain ⟨rfl, hsz, hP, hK, hD0, hX⟩ := hv
  have hx := B.exec
  have hb := B.bytes
  have hr := B.returns
  have hts := atoms_spec (ws := wsX6_fault) B.pre
  have hown : s.vm.findClass RX6 = some m.cls := findClass_of_methodNamed B.named
  have hlocks := B.notSynchronized
  subst hsz
  have hD := hD0.self (sz := s.heap.size)
  generalize hAe : va_A (md cI a N Z) s.heap.size = A at hD hX ⊢
  have hA : ∀ q : Nat, s.heap.size ≤ q → A q := fun q h => by rw [← hAe]; exact Or.inr h
  have hS : va_S A s.heap s.heap [] := va_S.rf
  have wd1 : (Cond.fieldLink RX6 180 "PickSlotsModel" "faultAt" "I").before [.ref (a 0), .int x1].toArray s = true := hts _ (List.mem_of_getElem? (i := 1) rfl)
  have hi6 : ∀ w ∈ wsX60, w ∈ wsX6_fault := fun w h => List.mem_cons_of_mem _ (List.mem_append_right _ (h))
  have CF : CallFix p m c cX6_fault 3 s [.ref (a 0), .int x1].toArray wsX6_fault RX6 := ⟨hx, hb, hml, hown, hts⟩
  have hl := lv_entry ([.ref (a 0), .int x1]) (n := 3) (Nat.le_of_ble_eq_true rfl)
  rw [lg_entry_eq]
  generalize (lg_sl ([.ref (a 0), .int x1]) ++ List.replicate (3 - (lg_sl ([.ref (a 0), .int x1])).length) Slot.unset).toArray = ls at hl ⊢
  have hl : lv_has ls 3 [(0, .ref (a 0)), (1, .int x1)] := hl
  refine lv_iload_n hx hb dX6_fault_0 rfl (lv_at hl 1 rfl) ?_
  refine lv_iconst (v := 0) hx hb dX6_fault_1 (by decide) ?_
  refine lv_iconst (v := 1) hx hb dX6_fault_2 (by decide) ?_
  refine roS CF (c_X6_in l D cI cC cW t _ _ _ ) (va_cwS 3 hts gX6_fault_X6_in rfl rfl rfl (by decide +kernel) ⟨Nat.le_of_ble_eq_true rfl, Nat.le_of_ble_eq_true rfl⟩) vP_nil hK hX hS rfl hl.1 rfl (Nat.le_of_ble_eq_true rfl) dX6_fault_3 ⟨Nat.zero_le _, Nat.zero_le _⟩ ?_
  refine lv_if_ne (tgt := 11) hx hb dX6_fault_6 (by decide) (fun c6 => ?_) (fun c6 => ?_)
  · refine lv_aload_n hx hb dX6_fault_11 rfl (lv_at hl 0 rfl) ?_
    refine rwV CF (c_X6_looks l D cI cC cW t _ _ _ _  (hsf) (hld) (hty)) (cwV 0 hts gX6_fault_X6_looks rfl rfl rfl (by decide +kernel) ⟨Nat.le_of_ble_eq_true rfl, Nat.le_of_ble_eq_true rfl⟩) hP hD hK hX hS hA 0 5 md_0 rfl rfl hl.1 rfl (Nat.le_of_ble_eq_true rfl) dX6_fault_12 ⟨Nat.zero_le _, Nat.zero_le _⟩ (fun H locs hP hD hS => ?_)
    refine lv_istore_n (lv' := [(2, .int _), (0, .ref _), (1, .int _)]) hx hb dX6_fault_15 rfl hl (by decide) rfl (fun ls hl => ?_)
    refine lv_iload_n hx hb dX6_fault_16 rfl (lv_at hl 0 rfl) ?_
    refine lv_if_ne (tgt := 25) hx hb dX6_fault_17 (by decide) (fun c17 => ?_) (fun c17 => ?_)
    · refine lv_iload_n hx hb dX6_fault_25 rfl (lv_at hl 2 rfl) ?_
      refine lv_if_ne (tgt := 36) hx hb dX6_fault_26 (by decide) (fun c26 => ?_) (fun c26 => ?_)
      · refine lv_iload_n hx hb dX6_fault_36 rfl (lv_at hl 0 rfl) ?_
        exact rwM_ret hx hb hr hP hD hS (Eq.trans (if_neg c6) (Eq.trans (if_neg c17) (Eq.trans (if_neg c26) (rfl)))) dX6_fault_37 hlocks
      · refine lv_aload_n hx hb dX6_fault_29 rfl (lv_at hl 1 rfl) ?_
        refine va_get (D := D) (ci := 5) (C := RX6) (T := TX6) (N := 17) hx hb hts hi6 hown hK hP 0 md_0 rfl 16 (by decide) wd1 (fun _ h9 => h9) rfl dX6_fault_30 ?_
        refine lv_goto (tgt := 37) hx hb dX6_fault_33 (by decide) ?_
        exact rwM_ret hx hb hr hP hD hS (Eq.trans (if_neg c6) (Eq.trans (if_neg c17) (Eq.trans (if_pos c26) (rfl)))) dX6_fault_37 hlocks
    · refine lv_bipush (v := -4) hx hb dX6_fault_20 (by decide) ?_
      refine lv_goto (tgt := 37) hx hb dX6_fault_22 (by decide) ?_
      exact rwM_ret hx hb hr hP hD hS (Eq.trans (if_neg c6) (Eq.trans (if_pos c17) (rfl))) dX6_fault_37 hlocks
  · refine lv_iconst (v := -1) hx hb dX6_fault_9 (by decide) ?_
    exact rwM_ret hx hb hr hP hD hS (Eq.trans (if_pos c6) (rfl)) dX6_fault_10 hlocks

def sp_X6_play (N : Nat → Int32) (Z : Nat → Nat → Int32) : Int32 × ((Nat → Int32) × (Nat → Nat → Int32)) :=
  let k1_1 : Int32 × ((Nat → Int32) × (Nat → Nat → Int32)) := sp_X6_looks N Z; let N2 : Nat → Int32 := k1_1.2.1; let Z3 : Nat → Nat → Int32 := k1_1.2.2; if k1_1.1 = 0 then (let k11_4 : Nat → Nat → Int32 := sp_X6_records N2 Z3; let k15_5 : Int32 × ((Nat → Int32) × (Nat → Nat → Int32)) := sp_X6_doesAll N2 k11_4; let N6 : Nat → Int32 := k15_5.2.1; let Z7 : Nat → Nat → Int32 := k15_5.2.2; if k15_5.1 = 0 then (((Z7 0 9), (N6, Z7))) else (((-2 : Int32), (N6, Z7)))) else (((-2 : Int32), (N2, Z3)))
set_option maxHeartbeats 4000000 in
set_option maxRecDepth 100000 in
theorem c_X6_play (l : Launch) (D : va_G) (cI cC cW : ClassId) (t : Nat → Nat) (a : Nat → Nat) (sz : Nat) (N : Nat → Int32) (Z : Nat → Nat → Int32) (hsf : sfN N) (hld : ¬ N 3 = 0) (hty : tyZ Z) (hps : psZ Z) : Met l yX6_play wsX6_play ({ frames := 7, cells := 0, slots := 0, locals := 157 }) (va_Pc [.ref (a 0)] (rwP D (tyL cI cC cW) (md cI a N Z) t sz)) (va_Qi (fun (r : Int32) (u : ((Nat → Int32) × (Nat → Nat → Int32))) => (r, u) = sp_X6_play N Z) (fun u => rwB D (va_A (md cI a N Z) sz) (md cI a u.1 u.2)) (va_A (md cI a N Z) sz)) 0 0 (va_A (md cI a N Z) sz) := by
  refine Met.ofW (cc := cX6_play) (maxL := 2) (ret := (some .int)) (by decide) rfl ?_
  intro p e s m args below meth c s₁ B hml hv
  obtain ⟨rfl, hsz, hP, hK, hD0, hX⟩ := hv
  have hx := B.exec
  have hb := B.bytes
  have hr := B.returns
  have hts := atoms_spec (ws := wsX6_play) B.pre
  have hown : s.vm.findClass RX6 = some m.cls := findClass_of_methodNamed B.named
  have hlocks := B.notSynchronized
  subst hsz
  have hD := hD0.self (sz := s.heap.size)
  generalize hAe : va_A (md cI a N Z) s.heap.size = A at hD hX ⊢
  have hA : ∀ q : Nat, s.heap.size ≤ q → A q := fun q h => by rw [← hAe]; exact Or.inr h
  have hS : va_S A s.heap s.heap [] := va_S.rf
  have wd1 : (Cond.fieldLink RX6 177 "PickSlotsModel" "orders" "I").before [.ref (a 0)].toArray s = true := hts _ (List.mem_of_getElem? (i := 1) rfl)
  have hi6 : ∀ w ∈ wsX60, w ∈ wsX6_play := fun w h => List.mem_cons_of_mem _ (List.mem_append_right _ (h))
  have CF : CallFix p m c cX6_play 2 s [.ref (a 0)].toArray wsX6_play RX6 := ⟨hx, hb, hml, hown, hts⟩
  have hl := lv_entry ([.ref (a 0)]) (n := 2) (Nat.le_of_ble_eq_true rfl)
  rw [lg_entry_eq]
  generalize (lg_sl ([.ref (a 0)]) ++ List.replicate (2 - (lg_sl ([.ref (a 0)])).length) Slot.unset).toArray = ls at hl ⊢
  have hl : lv_has ls 2 [(0, .ref (a 0))] := hl
  refine lv_aload_n hx hb dX6_play_0 rfl (lv_at hl 0 rfl) ?_
  refine rwV CF (c_X6_looks l D cI cC cW t _ _ _ _  (hsf) (hld) (hty)) (cwV 0 hts gX6_play_X6_looks rfl rfl rfl (by decide +kernel) ⟨Nat.le_of_ble_eq_true rfl, Nat.le_of_ble_eq_true rfl⟩) hP hD hK hX hS hA 0 5 md_0 rfl rfl hl.1 rfl (Nat.le_of_ble_eq_true rfl) dX6_play_1 ⟨Nat.zero_le _, Nat.zero_le _⟩ (fun H locs hP hD hS => ?_)
  refine lv_if_eq (tgt := 10) hx hb dX6_play_4 (by decide) (fun c4 => ?_) (fun c4 => ?_)
  · refine lv_aload_n hx hb dX6_play_10 rfl (lv_at hl 0 rfl) ?_
    refine rwVv CF (c_X6_records l D cI cC cW t _ _ _ _  (lk_ps hsf hty hps)) (cwV 0 hts gX6_play_X6_records rfl rfl rfl (by decide +kernel) ⟨Nat.le_of_ble_eq_true rfl, Nat.le_of_ble_eq_true rfl⟩) hP hD hK hX hS hA 0 5 md_0 rfl rfl hl.1 rfl (Nat.le_of_ble_eq_true rfl) dX6_play_11 ⟨Nat.zero_le _, Nat.zero_le _⟩ (fun H locs hP hD hS => ?_)
    refine lv_aload_n hx hb dX6_play_14 rfl (lv_at hl 0 rfl) ?_
    refine rwV CF (c_X6_doesAll l D cI cC cW t _ _ _ _  (lk_sf hsf hty) (lk_ld hsf hty hld) (ty_rec (lk_ty hsf hty))) (cwV 0 hts gX6_play_X6_doesAll rfl rfl rfl (by decide +kernel) ⟨Nat.le_of_ble_eq_true rfl, Nat.le_of_ble_eq_true rfl⟩) hP hD hK hX hS hA 0 5 md_0 rfl rfl hl.1 rfl (Nat.le_of_ble_eq_true rfl) dX6_play_15 ⟨Nat.zero_le _, Nat.zero_le _⟩ (fun H locs hP hD hS => ?_)
    refine lv_istore_n (lv' := [(1, .int _), (0, .ref _)]) hx hb dX6_play_18 rfl hl (by decide) rfl (fun ls hl => ?_)
    refine lv_iload_n hx hb dX6_play_19 rfl (lv_at hl 0 rfl) ?_
    refine lv_if_ne (tgt := 30) hx hb dX6_play_20 (by decide) (fun c20 => ?_) (fun c20 => ?_)
    · refine lv_bipush (v := -2) hx hb dX6_play_30 (by decide) ?_
      exact rwM_ret hx hb hr hP hD hS (by delta sp_X6_play; dsimp only; rw [if_pos c4, if_neg c20]) dX6_play_32 hlocks
    · refine lv_aload_n hx hb dX6_play_23 rfl (lv_at hl 1 rfl) ?_
      refine va_get (D := D) (ci := 5) (C := RX6) (T := TX6) (N := 17) hx hb hts hi6 hown hK hP 0 md_0 rfl 15 (by decide) wd1 (fun _ h9 => h9) rfl dX6_play_24 ?_
      refine lv_goto (tgt := 32) hx hb dX6_play_27 (by decide) ?_
      exact rwM_ret hx hb hr hP hD hS (by delta sp_X6_play; dsimp only; rw [if_pos c4, if_pos c20]) dX6_play_32 hlocks
  · refine lv_bipush (v := -2) hx hb dX6_play_7 (by decide) ?_
    exact rwM_ret hx hb hr hP hD hS (by delta sp_X6_play; dsimp only; rw [if_neg c4]) dX6_play_9 hlocks
