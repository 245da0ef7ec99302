/-! the model: looking at a text, undoing, the best way (printed by wip/whole/m10.py) -/
def sp_X6_looks (N : Nat → Int32) (Z : Nat → Nat → Int32) : Int32 × ((Nat → Int32) × (Nat → Nat → Int32)) :=
  let k10_1 : Nat → Nat → Int32 := sp_X6_copies13 N Z (0 : Int32) (0 : Int32); let k14_2 : Int32 × ((Nat → Int32) × (Nat → Nat → Int32)) := sp_X6_doesAll N k10_1; let N3 : Nat → Int32 := k14_2.2.1; let Z4 : Nat → Nat → Int32 := k14_2.2.2; let k28_5 : Nat → Int32 := sp_X6_copies31 N3 Z4 (0 : Int32) (0 : Int32); (k14_2.1, (k28_5, Z4))
set_option maxHeartbeats 4000000 in
set_option maxRecDepth 100000 in
theorem c_X6_looks (l : Launch) (D : va_G) (cI cC cW : ClassId) (t : Nat → Nat) (a : Nat → Nat) (sz : Nat) (N : Nat → Int32) (Z : Nat → Nat → Int32) (hsf : sfN N) (hld : ¬ N 3 = 0) (hty : tyZ Z) : Met l yX6_looks wsX6_looks ({ frames := 6, cells := 0, slots := 0, locals := 136 }) (va_Pc [.ref (a 0)] (rwP D (tyL cI cC cW) (md cI a N Z) t sz)) (va_Qi (fun (r : Int32) (u : ((Nat → Int32) × (Nat → Nat → Int32))) => (r, u) = sp_X6_looks N Z) (fun u => rwB D (va_A (md cI a N Z) sz) (md cI a u.1 u.2)) (va_A (md cI a N Z) sz)) 0 0 (va_A (md cI a N Z) sz) := by
  refine Met.ofW (cc := cX6_looks) (maxL := 2) (ret := (some .int)) (by decide) rfl ?_
  intro p e s m args below meth c s₁ B hml hv
  obtain ⟨rfl, hsz, hP, hK, hD0, hX⟩ := hv
  have hx := B.exec
  have hb := B.bytes
  have hr := B.returns
  have hts := atoms_spec (ws := wsX6_looks) B.pre
  have hown : s.vm.findClass RX6 = some m.cls := findClass_of_methodNamed B.named
  have hlocks := B.notSynchronized
  subst hsz
  have hD := hD0.self (sz := s.heap.size)
  generalize hAe : va_A (md cI a N Z) s.heap.size = A at hD hX ⊢
  have hA : ∀ q : Nat, s.heap.size ≤ q → A q := fun q h => by rw [← hAe]; exact Or.inr h
  have hS : va_S A s.heap s.heap [] := va_S.rf
  have wd1 : (Cond.fieldLink RX6 7 "PickSlotsModel" "now" "[I").before [.ref (a 0)].toArray s = true := hts _ (List.mem_of_getElem? (i := 1) rfl)
  have wd2 : (Cond.fieldLink RX6 16 "PickSlotsModel" "tried" "[I").before [.ref (a 0)].toArray s = true := hts _ (List.mem_of_getElem? (i := 2) rfl)
  have hi6 : ∀ w ∈ wsX60, w ∈ wsX6_looks := fun w h => List.mem_cons_of_mem _ (List.mem_append_right _ (h))
  have CF : CallFix p m c cX6_looks 2 s [.ref (a 0)].toArray wsX6_looks RX6 := ⟨hx, hb, hml, hown, hts⟩
  have hl := lv_entry ([.ref (a 0)]) (n := 2) (Nat.le_of_ble_eq_true rfl)
  rw [lg_entry_eq]
  generalize (lg_sl ([.ref (a 0)]) ++ List.replicate (2 - (lg_sl ([.ref (a 0)])).length) Slot.unset).toArray = ls at hl ⊢
  have hl : lv_has ls 2 [(0, .ref (a 0))] := hl
  refine lv_aload_n hx hb dX6_looks_0 rfl (lv_at hl 0 rfl) ?_
  refine va_get (D := D) (ci := 5) (C := RX6) (T := TX6) (N := 17) hx hb hts hi6 hown hK hP 0 md_0 rfl 0 (by decide) wd1 (fun _ h9 => h9) rfl dX6_looks_1 ?_
  refine lv_iconst (v := 0) hx hb dX6_looks_4 (by decide) ?_
  refine lv_aload_n hx hb dX6_looks_5 rfl (lv_at hl 0 rfl) ?_
  refine va_get (D := D) (ci := 5) (C := RX6) (T := TX6) (N := 17) hx hb hts hi6 hown hK hP 0 md_0 rfl 3 (by decide) wd2 (fun _ h9 => h9) rfl dX6_looks_6 ?_
  refine lv_iconst (v := 0) hx hb dX6_looks_9 (by decide) ?_
  refine rwSv CF (c_X6_copies13 l D cI cC cW t _ _ _ _ _ _ (by decide) (by decide) (by decide) (by decide)) (va_cwS 4 hts gX6_looks_X6_copies rfl rfl rfl (by decide +kernel) ⟨Nat.le_of_ble_eq_true rfl, Nat.le_of_ble_eq_true rfl⟩) hP hD hK hX hS hA rfl hl.1 rfl (Nat.le_of_ble_eq_true rfl) dX6_looks_10 ⟨Nat.zero_le _, Nat.zero_le _⟩ (fun H locs hP hD hS => ?_)
  refine lv_aload_n hx hb dX6_looks_13 rfl (lv_at hl 0 rfl) ?_
  refine rwV CF (c_X6_doesAll l D cI cC cW t _ _ _ _  (hsf) (hld) (ty_cp13 hty)) (cwV 0 hts gX6_looks_X6_doesAll rfl rfl rfl (by decide +kernel) ⟨Nat.le_of_ble_eq_true rfl, Nat.le_of_ble_eq_true rfl⟩) hP hD hK hX hS hA 0 5 md_0 rfl rfl hl.1 rfl (Nat.le_of_ble_eq_true rfl) dX6_looks_14 ⟨Nat.zero_le _, Nat.zero_le _⟩ (fun H locs hP hD hS => ?_)
  refine lv_istore_n (lv' := [(1, .int _), (0, .ref _)]) hx hb dX6_looks_17 rfl hl (by decide) rfl (fun ls hl => ?_)
  refine lv_aload_n hx hb dX6_looks_18 rfl (lv_at hl 1 rfl) ?_
  refine va_get (D := D) (ci := 5) (C := RX6) (T := TX6) (N := 17) hx hb hts hi6 hown hK hP 0 md_0 rfl 3 (by decide) wd2 (fun _ h9 => h9) rfl dX6_looks_19 ?_
  refine lv_iconst (v := 0) hx hb dX6_looks_22 (by decide) ?_
  refine lv_aload_n hx hb dX6_looks_23 rfl (lv_at hl 1 rfl) ?_
  refine va_get (D := D) (ci := 5) (C := RX6) (T := TX6) (N := 17) hx hb hts hi6 hown hK hP 0 md_0 rfl 0 (by decide) wd1 (fun _ h9 => h9) rfl dX6_looks_24 ?_
  refine lv_iconst (v := 0) hx hb dX6_looks_27 (by decide) ?_
  refine rwSv CF (c_X6_copies31 l D cI cC cW t _ _ _ _ _ _ (by decide) (by decide) (by decide) (by decide)) (va_cwS 4 hts gX6_looks_X6_copies rfl rfl rfl (by decide +kernel) ⟨Nat.le_of_ble_eq_true rfl, Nat.le_of_ble_eq_true rfl⟩) hP hD hK hX hS hA rfl hl.1 rfl (Nat.le_of_ble_eq_true rfl) dX6_looks_28 ⟨Nat.zero_le _, Nat.zero_le _⟩ (fun H locs hP hD hS => ?_)
  refine lv_iload_n hx hb dX6_looks_31 rfl (lv_at hl 0 rfl) ?_
  exact rwM_ret hx hb hr hP hD hS (rfl) dX6_looks_32 hlocks

def sp_X6_undo (N : Nat → Int32) (Z : Nat → Nat → Int32) : Int32 × ((Nat → Int32) × (Nat → Nat → Int32)) :=
  if (Z 0 0) = 0 then (((-2 : Int32), (N, Z))) else (let Z1 : Nat → Nat → Int32 := zu Z 0 0 ((Z 0 0) - (1 : Int32)); let k37_2 : Nat → Int32 := sp_X6_copies21 N Z1 ((Z1 0 0) * (236 : Int32)) (0 : Int32); ((Z1 0 0), (k37_2, Z1)))
set_option maxHeartbeats 4000000 in
set_option maxRecDepth 100000 in
theorem c_X6_undo (l : Launch) (D : va_G) (cI cC cW : ClassId) (t : Nat → Nat) (a : Nat → Nat) (sz : Nat) (N : Nat → Int32) (Z : Nat → Nat → Int32) (hps : psZ Z) : Met l yX6_undo wsX6_undo ({ frames := 1, cells := 0, slots := 0, locals := 24 }) (va_Pc [.ref (a 0)] (rwP D (tyL cI cC cW) (md cI a N Z) t sz)) (va_Qi (fun (r : Int32) (u : ((Nat → Int32) × (Nat → Nat → Int32))) => (r, u) = sp_X6_undo N Z) (fun u => rwB D (va_A (md cI a N Z) sz) (md cI a u.1 u.2)) (va_A (md cI a N Z) sz)) 0 0 (va_A (md cI a N Z) sz) := by
  refine Met.ofW (cc := cX6_undo) (maxL := 1) (ret := (some .int)) (by decide) rfl ?_
  intro p e s m args below meth c s₁ B hml hv
  obtain ⟨rfl, hsz, hP, hK, hD0, hX⟩ := hv
  have hx := B.exec
  have hb := B.bytes
  have hr := B.returns
  have hts := atoms_spec (ws := wsX6_undo) B.pre
  have hown : s.vm.findClass RX6 = some m.cls := findClass_of_methodNamed B.named
  have hlocks := B.notSynchronized
  subst hsz
  have hD := hD0.self (sz := s.heap.size)
  generalize hAe : va_A (md cI a N Z) s.heap.size = A at hD hX ⊢
  have hA : ∀ q : Nat, s.heap.size ≤ q → A q := fun q h => by rw [← hAe]; exact Or.inr h
  have hS : va_S A s.heap s.heap [] := va_S.rf
  have wd1 : (Cond.fieldLink RX6 28 "PickSlotsModel" "pasts" "I").before [.ref (a 0)].toArray s = true := hts _ (List.mem_of_getElem? (i := 1) rfl)
  have wd2 : (Cond.fieldLink RX6 13 "PickSlotsModel" "past" "[I").before [.ref (a 0)].toArray s = true := hts _ (List.mem_of_getElem? (i := 2) rfl)
  have wd3 : (Cond.fieldLink RX6 7 "PickSlotsModel" "now" "[I").before [.ref (a 0)].toArray s = true := hts _ (List.mem_of_getElem? (i := 3) rfl)
  have hi6 : ∀ w ∈ wsX60, w ∈ wsX6_undo := fun w h => List.mem_cons_of_mem _ (List.mem_append_right _ (h))
  have CF : CallFix p m c cX6_undo 1 s [.ref (a 0)].toArray wsX6_undo RX6 := ⟨hx, hb, hml, hown, hts⟩
  have hl := lv_entry ([.ref (a 0)]) (n := 1) (Nat.le_of_ble_eq_true rfl)
  rw [lg_entry_eq]
  generalize (lg_sl ([.ref (a 0)]) ++ List.replicate (1 - (lg_sl ([.ref (a 0)])).length) Slot.unset).toArray = ls at hl ⊢
  have hl : lv_has ls 1 [(0, .ref (a 0))] := hl
  refine lv_aload_n hx hb dX6_undo_0 rfl (lv_at hl 0 rfl) ?_
  refine va_get (D := D) (ci := 5) (C := RX6) (T := TX6) (N := 17) hx hb hts hi6 hown hK hP 0 md_0 rfl 2 (by decide) wd1 (fun _ h9 => h9) rfl dX6_undo_1 ?_
  refine lv_if_ne (tgt := 10) hx hb dX6_undo_4 (by decide) (fun c4 => ?_) (fun c4 => ?_)
  · refine lv_aload_n hx hb dX6_undo_10 rfl (lv_at hl 0 rfl) ?_
    refine lv_dup hx hb dX6_undo_11 rfl ?_
    refine va_get (D := D) (ci := 5) (C := RX6) (T := TX6) (N := 17) hx hb hts hi6 hown hK hP 0 md_0 rfl 2 (by decide) wd1 (fun _ h9 => h9) rfl dX6_undo_12 ?_
    refine lv_iconst (v := 1) hx hb dX6_undo_15 (by decide) ?_
    refine lv_isub hx hb dX6_undo_16 ?_
    refine my_put (D := D) (ci := 5) (C := RX6) (T := TX6) (N := 17) (ty := .int) hx hb hts hi6 tyX6 tyX6_ok nmX6 hown hK hP hD hS 0 md_0 rfl 2 (by decide) wd1 (fun _ h9 => h9) rfl (by decide +kernel) rfl rfl (Nat.le_of_ble_eq_true rfl) (md_f2 _) dX6_undo_17 (fun H locs hP hD hS => ?_)
    refine lv_aload_n hx hb dX6_undo_20 rfl (lv_at hl 0 rfl) ?_
    refine va_get (D := D) (ci := 5) (C := RX6) (T := TX6) (N := 17) hx hb hts hi6 hown hK hP 0 md_0 rfl 1 (by decide) wd2 (fun _ h9 => h9) rfl dX6_undo_21 ?_
    refine lv_aload_n hx hb dX6_undo_24 rfl (lv_at hl 0 rfl) ?_
    refine va_get (D := D) (ci := 5) (C := RX6) (T := TX6) (N := 17) hx hb hts hi6 hown hK hP 0 md_0 rfl 2 (by decide) wd1 (fun _ h9 => h9) rfl dX6_undo_25 ?_
    refine lv_sipush (v := 236) hx hb dX6_undo_28 (by decide) ?_
    refine lv_imul hx hb dX6_undo_31 ?_
    refine lv_aload_n hx hb dX6_undo_32 rfl (lv_at hl 0 rfl) ?_
    refine va_get (D := D) (ci := 5) (C := RX6) (T := TX6) (N := 17) hx hb hts hi6 hown hK hP 0 md_0 rfl 0 (by decide) wd3 (fun _ h9 => h9) rfl dX6_undo_33 ?_
    refine lv_iconst (v := 0) hx hb dX6_undo_36 (by decide) ?_
    refine rwSv CF (c_X6_copies21 l D cI cC cW t _ _ _ _ _ _ (by rw [zqs]; exact (ps_mul (un_ps hps c4).1 (un_ps hps c4).2).1) (by rw [zqs]; exact (ps_mul (un_ps hps c4).1 (un_ps hps c4).2).2) (by decide) (by decide)) (va_cwS 4 hts gX6_undo_X6_copies rfl rfl rfl (by decide +kernel) ⟨Nat.le_of_ble_eq_true rfl, Nat.le_of_ble_eq_true rfl⟩) hP hD hK hX hS hA rfl hl.1 rfl (Nat.le_of_ble_eq_true rfl) dX6_undo_37 ⟨Nat.zero_le _, Nat.zero_le _⟩ (fun H locs hP hD hS => ?_)
    refine lv_aload_n hx hb dX6_undo_40 rfl (lv_at hl 0 rfl) ?_
    refine va_get (D := D) (ci := 5) (C := RX6) (T := TX6) (N := 17) hx hb hts hi6 hown hK hP 0 md_0 rfl 2 (by decide) wd1 (fun _ h9 => h9) rfl dX6_undo_41 ?_
    exact rwM_ret hx hb hr hP hD hS (Eq.trans (if_neg c4) (rfl)) dX6_undo_44 hlocks
  · refine lv_bipush (v := -2) hx hb dX6_undo_7 (by decide) ?_
    exact rwM_ret hx hb hr hP hD hS (Eq.trans (if_pos c4) (rfl)) dX6_undo_9 hlocks

def lp98_X6_atBest (N : Nat → Int32) (x1 v2 : Int32) (K15 : Int32 → Int32 → (Nat → Nat → Int32) → (Int32 × (Nat → Nat → Int32))) : Nat → Int32 → Int32 → (Nat → Nat → Int32) → Int32 × (Nat → Nat → Int32)
  | 0, v3, v4, Zw => (0, Zw)
  | n + 1, v3, v4, Zw => if v2 ≤ v4 then ((v3, Zw)) else (lp98_X6_atBest N x1 v2 K15 n (v3 + ((Zw 4 (ix v4)) * (Zw 5 (ix v4)))) (v4 + (1 : Int32)) Zw)
theorem lp98_X6_atBest_s (N : Nat → Int32) (x1 v2 : Int32) (K15 : Int32 → Int32 → (Nat → Nat → Int32) → (Int32 × (Nat → Nat → Int32))) (n : Nat) (v3 : Int32) (v4 : Int32) (Zw : Nat → Nat → Int32) : lp98_X6_atBest N x1 v2 K15 (n + 1) v3 v4 Zw = if v2 ≤ v4 then ((v3, Zw)) else (lp98_X6_atBest N x1 v2 K15 n (v3 + ((Zw 4 (ix v4)) * (Zw 5 (ix v4)))) (v4 + (1 : Int32)) Zw) := rfl
def lp15_X6_atBest (N : Nat → Int32) (x1 : Int32) : Nat → Int32 → Int32 → (Nat → Nat → Int32) → Int32 × (Nat → Nat → Int32)
  | 0, v2, v3, Zw => (0, Zw)
  | n + 1, v2, v3, Zw => if (N 0) ≤ v3 then (let k81_101 : Nat → Nat → Int32 := sp_X6_sorts5 N Zw v2 (1 : Int32); let k90_102 : Nat → Nat → Int32 := sp_X6_sorts6 N k81_101 v2 (0 : Int32); lp98_X6_atBest N x1 v2 (lp15_X6_atBest N x1 n) 21 (0 : Int32) (0 : Int32) k90_102) else (if (sp_X6_of N Zw v3 (6 : Int32)) = (-1 : Int32) then (lp15_X6_atBest N x1 n v2 (v3 + (1 : Int32)) Zw) else (let Z101 : Nat → Nat → Int32 := zu Zw 4 (ix v2) (sp_X6_walk (sp_X6_of N Zw v3 (6 : Int32))); let Z102 : Nat → Nat → Int32 := zu Z101 5 (ix v2) (sp_X6_of N Z101 v3 ((2 : Int32) + x1)); lp15_X6_atBest N x1 n (v2 + (1 : Int32)) (v3 + (1 : Int32)) Z102))
theorem lp15_X6_atBest_s (N : Nat → Int32) (x1 : Int32) (n : Nat) (v2 : Int32) (v3 : Int32) (Zw : Nat → Nat → Int32) : lp15_X6_atBest N x1 (n + 1) v2 v3 Zw = if (N 0) ≤ v3 then (let k81_101 : Nat → Nat → Int32 := sp_X6_sorts5 N Zw v2 (1 : Int32); let k90_102 : Nat → Nat → Int32 := sp_X6_sorts6 N k81_101 v2 (0 : Int32); lp98_X6_atBest N x1 v2 (lp15_X6_atBest N x1 n) 21 (0 : Int32) (0 : Int32) k90_102) else (if (sp_X6_of N Zw v3 (6 : Int32)) = (-1 : Int32) then (lp15_X6_atBest N x1 n v2 (v3 + (1 : Int32)) Zw) else (let Z101 : Nat → Nat → Int32 := zu Zw 4 (ix v2) (sp_X6_walk (sp_X6_of N Zw v3 (6 : Int32))); let Z102 : Nat → Nat → Int32 := zu Z101 5 (ix v2) (sp_X6_of N Z101 v3 ((2 : Int32) + x1)); lp15_X6_atBest N x1 n (v2 + (1 : Int32)) (v3 + (1 : Int32)) Z102)) := rfl
def sp_X6_atBest (N : Nat → Int32) (Z : Nat → Nat → Int32) (x1 : Int32) : Int32 × (Nat → Nat → Int32) :=
  if (sp_X6_in x1 (0 : Int32) (3 : Int32)) = 0 then (((-1 : Int32), Z)) else (lp15_X6_atBest N x1 21 (0 : Int32) (0 : Int32) Z)
set_option maxHeartbeats 4000000 in
set_option maxRecDepth 100000 in
theorem c_X6_atBest (l : Launch) (D : va_G) (cI cC cW : ClassId) (t : Nat → Nat) (a : Nat → Nat) (sz : Nat) (N : Nat → Int32) (Z : Nat → Nat → Int32) (x1 : Int32) (hsf : sfN N) : Met l yX6_atBest wsX6_atBest ({ frames := 2, cells := 0, slots := 0, locals := 41 }) (va_Pc [.ref (a 0), .int x1] (rwP D (tyL cI cC cW) (md cI a N Z) t sz)) (va_Qi (fun (r : Int32) (u : Nat → Nat → Int32) => (r, u) = sp_X6_atBest N Z x1) (fun u => rwB D (va_A (md cI a N Z) sz) (md cI a N u)) (va_A (md cI a N Z) sz)) 0 0 (va_A (md cI a N Z) sz) := by
  refine Met.ofW (cc := cX6_atBest) (maxL := 5) (ret := (some .int)) (by decide) rfl ?_
  intro p e s m args below meth c s₁ B hml hv
  obtain ⟨rfl, hsz, hP, hK, hD0, hX⟩ := hv
  have hx := B.exec
  have hb := B.bytes
  have hr := B.returns
  have hts := atoms_spec (ws := wsX6_atBest) B.pre
  have hown : s.vm.findClass RX6 = some m.cls := findClass_of_methodNamed B.named
  have hlocks := B.notSynchronized
  subst hsz
  have hD := hD0.self (sz := s.heap.size)
  generalize hAe : va_A (md cI a N Z) s.heap.size = A at hD hX ⊢
  have hA : ∀ q : Nat, s.heap.size ≤ q → A q := fun q h => by rw [← hAe]; exact Or.inr h
  have hS : va_S A s.heap s.heap [] := va_S.rf
  have wd1 : (Cond.fieldLink RX6 7 "PickSlotsModel" "now" "[I").before [.ref (a 0), .int x1].toArray s = true := hts _ (List.mem_of_getElem? (i := 1) rfl)
  have wd2 : (Cond.fieldLink RX6 22 "PickSlotsModel" "walks" "[I").before [.ref (a 0), .int x1].toArray s = true := hts _ (List.mem_of_getElem? (i := 2) rfl)
  have wd3 : (Cond.fieldLink RX6 25 "PickSlotsModel" "demands" "[I").before [.ref (a 0), .int x1].toArray s = true := hts _ (List.mem_of_getElem? (i := 3) rfl)
  have hi6 : ∀ w ∈ wsX60, w ∈ wsX6_atBest := fun w h => List.mem_cons_of_mem _ (List.mem_append_right _ (h))
  have CF : CallFix p m c cX6_atBest 5 s [.ref (a 0), .int x1].toArray wsX6_atBest RX6 := ⟨hx, hb, hml, hown, hts⟩
  have hl := lv_entry ([.ref (a 0), .int x1]) (n := 5) (Nat.le_of_ble_eq_true rfl)
  rw [lg_entry_eq]
  generalize (lg_sl ([.ref (a 0), .int x1]) ++ List.replicate (5 - (lg_sl ([.ref (a 0), .int x1])).length) Slot.unset).toArray = ls at hl ⊢
  have hl : lv_has ls 5 [(0, .ref (a 0)), (1, .int x1)] := hl
  refine lv_iload_n hx hb dX6_atBest_0 rfl (lv_at hl 1 rfl) ?_
  refine lv_iconst (v := 0) hx hb dX6_atBest_1 (by decide) ?_
  refine lv_iconst (v := 3) hx hb dX6_atBest_2 (by decide) ?_
  refine roS CF (c_X6_in l D cI cC cW t _ _ _ ) (va_cwS 3 hts gX6_atBest_X6_in rfl rfl rfl (by decide +kernel) ⟨Nat.le_of_ble_eq_true rfl, Nat.le_of_ble_eq_true rfl⟩) vP_nil hK hX hS rfl hl.1 rfl (Nat.le_of_ble_eq_true rfl) dX6_atBest_3 ⟨Nat.zero_le _, Nat.zero_le _⟩ ?_
  refine lv_if_ne (tgt := 11) hx hb dX6_atBest_6 (by decide) (fun c6 => ?_) (fun c6 => ?_)
  · have hs4 : vp_in x1 4 := min4 c6
    refine lv_iconst (v := 0) hx hb dX6_atBest_11 (by decide) ?_
    refine lv_istore_n (lv' := [(2, .int _), (0, .ref _), (1, .int _)]) hx hb dX6_atBest_12 rfl hl (by decide) rfl (fun ls hl => ?_)
    refine lv_iconst (v := 0) hx hb dX6_atBest_13 (by decide) ?_
    refine lv_istore_n (lv' := [(3, .int _), (2, .int _), (0, .ref _), (1, .int _)]) hx hb dX6_atBest_14 rfl hl (by decide) rfl (fun ls hl => ?_)
    have L15 : ∀ (n15 : Nat) (v2 v3 : Int32) (Zw : Nat → Nat → Int32), (0 ≤ v3.toInt) → (v3.toInt ≤ (N 0).toInt) → ((N 0).toInt - v3.toInt < (n15 : Int)) → (0 ≤ v2.toInt) → (v2.toInt ≤ v3.toInt) → sp_X6_atBest N Z x1 = lp15_X6_atBest N x1 (n15) v2 v3 Zw → ∀ (ls : Array Slot), lv_has ls 5 [(2, .int v2), (3, .int v3), (0, .ref (a 0)), (1, .int x1)] → ∀ (H : Heap) (locs : List Loc), va_P D vwCl (md cI a N Zw) H → va_D A (md cI a N Zw) → va_S A s.heap H locs → W p l e (headSpec wsX6_atBest ({ frames := 2, cells := 0, slots := 0, locals := 41 } : Room)).room s m [.ref (a 0), .int x1].toArray below meth c H locs 0 0 (MQ below (va_Qi (fun (r : Int32) (u : Nat → Nat → Int32) => (r, u) = sp_X6_atBest N Z x1) (fun u => rwB D A (md cI a N u)) A) [.ref (a 0), .int x1].toArray s 0 0 A) (F0 m 15 ls []) := by
      intro n15
      induction n15 with
      | zero => intro v2 v3 Zw i1 i2 im j1 j2; exfalso; omega
      | succ n15 ih15 =>
        intro v2 v3 Zw i1 i2 im j1 j2 hsp15 ls hl H locs hP hD hS
        refine lv_iload_n hx hb dX6_atBest_15 rfl (lv_at hl 1 rfl) ?_
        refine lv_aload_n hx hb dX6_atBest_16 rfl (lv_at hl 2 rfl) ?_
        refine va_get (D := D) (ci := 5) (C := RX6) (T := TX6) (N := 17) hx hb hts hi6 hown hK hP 0 md_0 rfl 0 (by decide) wd1 (fun _ h9 => h9) rfl dX6_atBest_17 ?_
        refine lv_iconst (v := 0) hx hb dX6_atBest_20 (by decide) ?_
        refine my_ialdK (k := 0) hx hb hK hP 1 0 md_1 rfl (by decide) (by first | (with_reducible first | assumption | exact m20 (by assumption) (by assumption) | exact ga20 (by assumption) (by assumption) | exact w2 (by assumption) | exact w2 (min4 (by assumption)) | exact w2 (s46 (by assumption)) | exact min4 (by assumption) | exact s46 (by assumption) | exact min11 (by assumption) (by assumption)) | (unfold vp_in; decide) | ((with_reducible (repeat (first | assumption | (refine sf_lays ?_ ?_ ?_; (with_reducible first | assumption | exact m20 (by assumption) (by assumption) | exact ga20 (by assumption) (by assumption)); (with_reducible first | exact v11_0 | exact v11_1 | exact v11_6 | exact v11_7 | exact v11_8 | exact v11_9 | exact v11_10 | exact w2 (by assumption) | exact w2 (min4 (by assumption)))) | (refine sf_adds ?_ ?_; (with_reducible first | exact v8_0 | exact v8_1 | exact v8_2 | exact v8_3 | exact v8_4 | exact v8_5 | exact v8_6 | exact v8_7)) | (refine sf_u (by omega) ?_)))); done)) dX6_atBest_21 ?_
        refine lv_icmp_ge (tgt := 75) hx hb dX6_atBest_22 (by decide) (fun c22 => ?_) (fun c22 => ?_)
        · refine lv_aload_n hx hb dX6_atBest_75 rfl (lv_at hl 2 rfl) ?_
          refine va_get (D := D) (ci := 5) (C := RX6) (T := TX6) (N := 17) hx hb hts hi6 hown hK hP 0 md_0 rfl 9 (by decide) wd2 (fun _ h9 => h9) rfl dX6_atBest_76 ?_
          refine lv_iload_n hx hb dX6_atBest_79 rfl (lv_at hl 0 rfl) ?_
          refine lv_iconst (v := 1) hx hb dX6_atBest_80 (by decide) ?_
          refine rwSv CF (c_X6_sorts5 l D cI cC cW t _ _ _ _ _ _ (j1) ((Int.le_trans j2 (Int.le_trans i2 hsf.2.1)))) (va_cwS 3 hts gX6_atBest_X6_sorts rfl rfl rfl (by decide +kernel) ⟨Nat.le_of_ble_eq_true rfl, Nat.le_of_ble_eq_true rfl⟩) hP hD hK hX hS hA rfl hl.1 rfl (Nat.le_of_ble_eq_true rfl) dX6_atBest_81 ⟨Nat.zero_le _, Nat.zero_le _⟩ (fun H locs hP hD hS => ?_)
          refine lv_aload_n hx hb dX6_atBest_84 rfl (lv_at hl 2 rfl) ?_
          refine va_get (D := D) (ci := 5) (C := RX6) (T := TX6) (N := 17) hx hb hts hi6 hown hK hP 0 md_0 rfl 10 (by decide) wd3 (fun _ h9 => h9) rfl dX6_atBest_85 ?_
          refine lv_iload_n hx hb dX6_atBest_88 rfl (lv_at hl 0 rfl) ?_
          refine lv_iconst (v := 0) hx hb dX6_atBest_89 (by decide) ?_
          refine rwSv CF (c_X6_sorts6 l D cI cC cW t _ _ _ _ _ _ (j1) ((Int.le_trans j2 (Int.le_trans i2 hsf.2.1)))) (va_cwS 3 hts gX6_atBest_X6_sorts rfl rfl rfl (by decide +kernel) ⟨Nat.le_of_ble_eq_true rfl, Nat.le_of_ble_eq_true rfl⟩) hP hD hK hX hS hA rfl hl.1 rfl (Nat.le_of_ble_eq_true rfl) dX6_atBest_90 ⟨Nat.zero_le _, Nat.zero_le _⟩ (fun H locs hP hD hS => ?_)
          refine lv_iconst (v := 0) hx hb dX6_atBest_93 (by decide) ?_
          refine lv_istore_n (lv' := [(3, .int _), (2, .int _), (0, .ref _), (1, .int _)]) hx hb dX6_atBest_94 rfl hl (by decide) rfl (fun ls hl => ?_)
          refine lv_iconst (v := 0) hx hb dX6_atBest_95 (by decide) ?_
          refine lv_istore (lv' := [(4, .int _), (3, .int _), (2, .int _), (0, .ref _), (1, .int _)]) hx hb dX6_atBest_96 hl (by decide) rfl (fun ls hl => ?_)
          have L98 : ∀ (n98 : Nat) (v3 v4 : Int32) (Zw : Nat → Nat → Int32), (0 ≤ v4.toInt) → (v4.toInt ≤ v2.toInt) → (v2.toInt - v4.toInt < (n98 : Int)) → sp_X6_atBest N Z x1 = lp98_X6_atBest N x1 v2 (lp15_X6_atBest N x1 n15) (n98) v3 v4 Zw → ∀ (ls : Array Slot), lv_has ls 5 [(3, .int v3), (4, .int v4), (2, .int v2), (0, .ref (a 0)), (1, .int x1)] → ∀ (H : Heap) (locs : List Loc), va_P D vwCl (md cI a N Zw) H → va_D A (md cI a N Zw) → va_S A s.heap H locs → W p l e (headSpec wsX6_atBest ({ frames := 2, cells := 0, slots := 0, locals := 41 } : Room)).room s m [.ref (a 0), .int x1].toArray below meth c H locs 0 0 (MQ below (va_Qi (fun (r : Int32) (u : Nat → Nat → Int32) => (r, u) = sp_X6_atBest N Z x1) (fun u => rwB D A (md cI a N u)) A) [.ref (a 0), .int x1].toArray s 0 0 A) (F0 m 98 ls []) := by
            intro n98
            induction n98 with
            | zero => intro v3 v4 Zw k1 k2 km; exfalso; omega
            | succ n98 ih98 =>
              intro v3 v4 Zw k1 k2 km hsp98 ls hl H locs hP hD hS
              refine lv_iload hx hb dX6_atBest_98 (lv_at hl 1 rfl) ?_
              refine lv_iload_n hx hb dX6_atBest_100 rfl (lv_at hl 2 rfl) ?_
              refine lv_icmp_ge (tgt := 128) hx hb dX6_atBest_101 (by decide) (fun c101 => ?_) (fun c101 => ?_)
              · refine lv_iload_n hx hb dX6_atBest_128 rfl (lv_at hl 0 rfl) ?_
                exact rw_ret _ hx hb hr hP hD hS (Eq.trans hsp98 (Eq.trans (lp98_X6_atBest_s _ _ _ _ _ _ _ _) (Eq.trans (if_pos c101) (rfl)))) dX6_atBest_129 hlocks
              · have hv4 : vp_in v4 20 := cnle k1 c101 (Int.le_trans j2 (Int.le_trans i2 hsf.2.1))
                refine lv_iload_n hx hb dX6_atBest_104 rfl (lv_at hl 0 rfl) ?_
                refine lv_aload_n hx hb dX6_atBest_105 rfl (lv_at hl 3 rfl) ?_
                refine va_get (D := D) (ci := 5) (C := RX6) (T := TX6) (N := 17) hx hb hts hi6 hown hK hP 0 md_0 rfl 9 (by decide) wd2 (fun _ h9 => h9) rfl dX6_atBest_106 ?_
                refine lv_iload hx hb dX6_atBest_109 (lv_at hl 1 rfl) ?_
                refine va_iald hx hb hK hP 5 0 md_5 rfl hv4 dX6_atBest_111 ?_
                refine lv_aload_n hx hb dX6_atBest_112 rfl (lv_at hl 3 rfl) ?_
                refine va_get (D := D) (ci := 5) (C := RX6) (T := TX6) (N := 17) hx hb hts hi6 hown hK hP 0 md_0 rfl 10 (by decide) wd3 (fun _ h9 => h9) rfl dX6_atBest_113 ?_
                refine lv_iload hx hb dX6_atBest_116 (lv_at hl 1 rfl) ?_
                refine va_iald hx hb hK hP 6 0 md_6 rfl hv4 dX6_atBest_118 ?_
                refine lv_imul hx hb dX6_atBest_119 ?_
                refine lv_iadd hx hb dX6_atBest_120 ?_
                refine lv_istore_n (lv' := [(3, .int _), (4, .int _), (2, .int _), (0, .ref _), (1, .int _)]) hx hb dX6_atBest_121 rfl hl (by decide) rfl (fun ls hl => ?_)
                refine lv_iinc (v := _ + (1 : Int32)) (lv' := [(4, .int _), (3, .int _), (2, .int _), (0, .ref _), (1, .int _)]) hx hb dX6_atBest_122 hl (k := 1) rfl rfl (by decide) rfl (fun ls hl => ?_)
                refine lv_goto (tgt := 98) hx hb dX6_atBest_125 (by decide) ?_
                exact ih98 _ _ _ (cs1 k1 c101) (cs2 c101) (csm c101 km) (Eq.trans hsp98 (Eq.trans (lp98_X6_atBest_s _ _ _ _ _ _ _ _) (Eq.trans (if_neg c101) (rfl)))) _ (lv_sub hl [1, 0, 2, 3, 4] rfl) _ _ hP hD hS
          exact L98 21 _ _ _ (by decide) (by rw [i0]; exact j1) (srt0 (Int.le_trans j2 (Int.le_trans i2 hsf.2.1))) (Eq.trans hsp15 (Eq.trans (lp15_X6_atBest_s _ _ _ _ _ _) (Eq.trans (if_pos c22) (rfl)))) _ (lv_sub hl [1, 0, 2, 3, 4] rfl) _ _ hP hD hS
        · have hv : vp_in v3 20 := cnin20 hsf i1 c22
          have hm : vp_in v2 20 := inT j1 (by rw [le_toInt] at c22; have := hsf.2.1; omega)
          refine lv_aload_n hx hb dX6_atBest_25 rfl (lv_at hl 2 rfl) ?_
          refine lv_iload_n hx hb dX6_atBest_26 rfl (lv_at hl 1 rfl) ?_
          refine lv_bipush (v := 6) hx hb dX6_atBest_27 (by decide) ?_
          refine roV CF (c_X6_of l D cI cC cW t _ _ _ _ _ (by first | (with_reducible first | assumption | exact m20 (by assumption) (by assumption) | exact ga20 (by assumption) (by assumption) | exact w2 (by assumption) | exact w2 (min4 (by assumption)) | exact w2 (s46 (by assumption)) | exact min4 (by assumption) | exact s46 (by assumption) | exact min11 (by assumption) (by assumption)) | (unfold vp_in; decide) | ((with_reducible (repeat (first | assumption | (refine sf_lays ?_ ?_ ?_; (with_reducible first | assumption | exact m20 (by assumption) (by assumption) | exact ga20 (by assumption) (by assumption)); (with_reducible first | exact v11_0 | exact v11_1 | exact v11_6 | exact v11_7 | exact v11_8 | exact v11_9 | exact v11_10 | exact w2 (by assumption) | exact w2 (min4 (by assumption)))) | (refine sf_adds ?_ ?_; (with_reducible first | exact v8_0 | exact v8_1 | exact v8_2 | exact v8_3 | exact v8_4 | exact v8_5 | exact v8_6 | exact v8_7)) | (refine sf_u (by omega) ?_)))); done)) (by first | (with_reducible first | assumption | exact m20 (by assumption) (by assumption) | exact ga20 (by assumption) (by assumption) | exact w2 (by assumption) | exact w2 (min4 (by assumption)) | exact w2 (s46 (by assumption)) | exact min4 (by assumption) | exact s46 (by assumption) | exact min11 (by assumption) (by assumption)) | (unfold vp_in; decide) | ((with_reducible (repeat (first | assumption | (refine sf_lays ?_ ?_ ?_; (with_reducible first | assumption | exact m20 (by assumption) (by assumption) | exact ga20 (by assumption) (by assumption)); (with_reducible first | exact v11_0 | exact v11_1 | exact v11_6 | exact v11_7 | exact v11_8 | exact v11_9 | exact v11_10 | exact w2 (by assumption) | exact w2 (min4 (by assumption)))) | (refine sf_adds ?_ ?_; (with_reducible first | exact v8_0 | exact v8_1 | exact v8_2 | exact v8_3 | exact v8_4 | exact v8_5 | exact v8_6 | exact v8_7)) | (refine sf_u (by omega) ?_)))); done))) (cwV 2 hts gX6_atBest_X6_of rfl rfl rfl (by decide +kernel) ⟨Nat.le_of_ble_eq_true rfl, Nat.le_of_ble_eq_true rfl⟩) hP hK hX hS 0 5 md_0 rfl rfl hl.1 rfl (Nat.le_of_ble_eq_true rfl) dX6_atBest_29 ⟨Nat.zero_le _, Nat.zero_le _⟩ ?_
          refine lv_iconst (v := -1) hx hb dX6_atBest_32 (by decide) ?_
          refine lv_icmp_eq (tgt := 69) hx hb dX6_atBest_33 (by decide) (fun c33 => ?_) (fun c33 => ?_)
          · refine lv_iinc (v := _ + (1 : Int32)) (lv' := [(3, .int _), (2, .int _), (0, .ref _), (1, .int _)]) hx hb dX6_atBest_69 hl (k := 1) rfl rfl (by decide) rfl (fun ls hl => ?_)
            refine lv_goto (tgt := 15) hx hb dX6_atBest_72 (by decide) ?_
            exact ih15 _ _ _ (cs1 i1 c22) (cs2 c22) (csm c22 im) (j1) (ab3 j2 c22) (Eq.trans hsp15 (Eq.trans (lp15_X6_atBest_s _ _ _ _ _ _) (Eq.trans (if_neg c22) (Eq.trans (if_pos c33) (rfl))))) _ (lv_sub hl [1, 0, 2, 3] rfl) _ _ hP hD hS
          · refine lv_aload_n hx hb dX6_atBest_36 rfl (lv_at hl 2 rfl) ?_
            refine va_get (D := D) (ci := 5) (C := RX6) (T := TX6) (N := 17) hx hb hts hi6 hown hK hP 0 md_0 rfl 9 (by decide) wd2 (fun _ h9 => h9) rfl dX6_atBest_37 ?_
            refine lv_iload_n hx hb dX6_atBest_40 rfl (lv_at hl 0 rfl) ?_
            refine lv_aload_n hx hb dX6_atBest_41 rfl (lv_at hl 2 rfl) ?_
            refine lv_iload_n hx hb dX6_atBest_42 rfl (lv_at hl 1 rfl) ?_
            refine lv_bipush (v := 6) hx hb dX6_atBest_43 (by decide) ?_
            refine roV CF (c_X6_of l D cI cC cW t _ _ _ _ _ (by first | (with_reducible first | assumption | exact m20 (by assumption) (by assumption) | exact ga20 (by assumption) (by assumption) | exact w2 (by assumption) | exact w2 (min4 (by assumption)) | exact w2 (s46 (by assumption)) | exact min4 (by assumption) | exact s46 (by assumption) | exact min11 (by assumption) (by assumption)) | (unfold vp_in; decide) | ((with_reducible (repeat (first | assumption | (refine sf_lays ?_ ?_ ?_; (with_reducible first | assumption | exact m20 (by assumption) (by assumption) | exact ga20 (by assumption) (by assumption)); (with_reducible first | exact v11_0 | exact v11_1 | exact v11_6 | exact v11_7 | exact v11_8 | exact v11_9 | exact v11_10 | exact w2 (by assumption) | exact w2 (min4 (by assumption)))) | (refine sf_adds ?_ ?_; (with_reducible first | exact v8_0 | exact v8_1 | exact v8_2 | exact v8_3 | exact v8_4 | exact v8_5 | exact v8_6 | exact v8_7)) | (refine sf_u (by omega) ?_)))); done)) (by first | (with_reducible first | assumption | exact m20 (by assumption) (by assumption) | exact ga20 (by assumption) (by assumption) | exact w2 (by assumption) | exact w2 (min4 (by assumption)) | exact w2 (s46 (by assumption)) | exact min4 (by assumption) | exact s46 (by assumption) | exact min11 (by assumption) (by assumption)) | (unfold vp_in; decide) | ((with_reducible (repeat (first | assumption | (refine sf_lays ?_ ?_ ?_; (with_reducible first | assumption | exact m20 (by assumption) (by assumption) | exact ga20 (by assumption) (by assumption)); (with_reducible first | exact v11_0 | exact v11_1 | exact v11_6 | exact v11_7 | exact v11_8 | exact v11_9 | exact v11_10 | exact w2 (by assumption) | exact w2 (min4 (by assumption)))) | (refine sf_adds ?_ ?_; (with_reducible first | exact v8_0 | exact v8_1 | exact v8_2 | exact v8_3 | exact v8_4 | exact v8_5 | exact v8_6 | exact v8_7)) | (refine sf_u (by omega) ?_)))); done))) (cwV 2 hts gX6_atBest_X6_of rfl rfl rfl (by decide +kernel) ⟨Nat.le_of_ble_eq_true rfl, Nat.le_of_ble_eq_true rfl⟩) hP hK hX hS 0 5 md_0 rfl rfl hl.1 rfl (Nat.le_of_ble_eq_true rfl) dX6_atBest_45 ⟨Nat.zero_le _, Nat.zero_le _⟩ ?_
            refine roS CF (c_X6_walk l D cI cC cW t _ ) (va_cwS 1 hts gX6_atBest_X6_walk rfl rfl rfl (by decide +kernel) ⟨Nat.le_of_ble_eq_true rfl, Nat.le_of_ble_eq_true rfl⟩) vP_nil hK hX hS rfl hl.1 rfl (Nat.le_of_ble_eq_true rfl) dX6_atBest_48 ⟨Nat.zero_le _, Nat.zero_le _⟩ ?_
            refine my_iast hx hb hK hP hD hS 5 0 md_5 rfl (md_s5 _ _) hm dX6_atBest_51 (fun H locs hP hD hS => ?_)
            refine lv_aload_n hx hb dX6_atBest_52 rfl (lv_at hl 2 rfl) ?_
            refine va_get (D := D) (ci := 5) (C := RX6) (T := TX6) (N := 17) hx hb hts hi6 hown hK hP 0 md_0 rfl 10 (by decide) wd3 (fun _ h9 => h9) rfl dX6_atBest_53 ?_
            refine lv_iload_n hx hb dX6_atBest_56 rfl (lv_at hl 0 rfl) ?_
            refine lv_aload_n hx hb dX6_atBest_57 rfl (lv_at hl 2 rfl) ?_
            refine lv_iload_n hx hb dX6_atBest_58 rfl (lv_at hl 1 rfl) ?_
            refine lv_iconst (v := 2) hx hb dX6_atBest_59 (by decide) ?_
            refine lv_iload_n hx hb dX6_atBest_60 rfl (lv_at hl 3 rfl) ?_
            refine lv_iadd hx hb dX6_atBest_61 ?_
            refine roV CF (c_X6_of l D cI cC cW t _ _ _ _ _ (hv) (w2 hs4)) (cwV 2 hts gX6_atBest_X6_of rfl rfl rfl (by decide +kernel) ⟨Nat.le_of_ble_eq_true rfl, Nat.le_of_ble_eq_true rfl⟩) hP hK hX hS 0 5 md_0 rfl rfl hl.1 rfl (Nat.le_of_ble_eq_true rfl) dX6_atBest_62 ⟨Nat.zero_le _, Nat.zero_le _⟩ ?_
            refine my_iast hx hb hK hP hD hS 6 0 md_6 rfl (md_s6 _ _) hm dX6_atBest_65 (fun H locs hP hD hS => ?_)
            refine lv_iinc (v := _ + (1 : Int32)) (lv' := [(2, .int _), (3, .int _), (0, .ref _), (1, .int _)]) hx hb dX6_atBest_66 hl (k := 0) rfl rfl (by decide) rfl (fun ls hl => ?_)
            refine lv_iinc (v := _ + (1 : Int32)) (lv' := [(3, .int _), (2, .int _), (0, .ref _), (1, .int _)]) hx hb dX6_atBest_69 hl (k := 1) rfl rfl (by decide) rfl (fun ls hl => ?_)
            refine lv_goto (tgt := 15) hx hb dX6_atBest_72 (by decide) ?_
            exact ih15 _ _ _ (cs1 i1 c22) (cs2 c22) (csm c22 im) (ab1 j1 j2 c22 hsf) (ab2 j1 j2 c22 hsf) (Eq.trans hsp15 (Eq.trans (lp15_X6_atBest_s _ _ _ _ _ _) (Eq.trans (if_neg c22) (Eq.trans (if_neg c33) (rfl))))) _ (lv_sub hl [1, 0, 2, 3] rfl) _ _ hP hD hS
    exact L15 21 _ _ _ (by decide) (cn2 hsf) (cnm hsf) (by decide) (by decide) (Eq.trans (if_neg c6) (rfl)) _ (lv_sub hl [1, 0, 2, 3] rfl) _ _ hP hD hS
  · refine lv_iconst (v := -1) hx hb dX6_atBest_9 (by decide) ?_
    exact rw_ret _ hx hb hr hP hD hS (Eq.trans (if_pos c6) (rfl)) dX6_atBest_10 hlocks
