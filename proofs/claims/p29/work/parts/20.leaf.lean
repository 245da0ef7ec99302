/-! leaves: static methods, small reads (printed by wip/whole/m1.py) -/
def sp_X5_isSeason (x1 : Int32) : Int32 :=
  if x1 < 0 then ((0 : Int32)) else (if (4 : Int32) ≤ x1 then ((0 : Int32)) else ((1 : Int32)))
set_option maxHeartbeats 4000000 in
set_option maxRecDepth 100000 in
theorem c_X5_isSeason (l : Launch) (D : va_G) (cI cC cW : ClassId) (t : Nat → Nat) (x1 : Int32)  : Met l yX5_isSeason wsX5_isSeason ({ frames := 0, cells := 0, slots := 0, locals := 0 }) (va_Pc [.int x1] (roP D (tyL cI cC cW) [] t)) (vp_Si (fun r => r = sp_X5_isSeason x1)) 0 0 (fun _ => False) := by
  refine Met.ofW (cc := cX5_isSeason) (maxL := 1) (ret := (some .boolean)) (by decide) rfl ?_
  intro p e s m args below meth c s₁ B hml hv
  obtain ⟨rfl, hP, hK, hX⟩ := hv
  have hx := B.exec
  have hb := B.bytes
  have hr := B.returns
  have hts := atoms_spec (ws := wsX5_isSeason) B.pre
  have hown : s.vm.findClass RX5 = some m.cls := findClass_of_methodNamed B.named
  have hlocks := B.notSynchronized
  have hS : va_S (fun _ => False) s.heap s.heap [] := va_S.rf
  have hl := lv_entry ([.int x1]) (n := 1) (Nat.le_of_ble_eq_true rfl)
  rw [lg_entry_eq]
  generalize (lg_sl ([.int x1]) ++ List.replicate (1 - (lg_sl ([.int x1])).length) Slot.unset).toArray = ls at hl ⊢
  have hl : lv_has ls 1 [(0, .int x1)] := hl
  refine lv_iload_n hx hb dX5_isSeason_0 rfl (lv_at hl 0 rfl) ?_
  refine lv_if_lt (tgt := 13) hx hb dX5_isSeason_1 (by decide) (fun c1 => ?_) (fun c1 => ?_)
  · refine lv_iconst (v := 0) hx hb dX5_isSeason_13 (by decide) ?_
    exact ro_zret hx hb hr (rfl) (Eq.trans (if_pos c1) (rfl)) dX5_isSeason_14 hlocks
  · refine lv_iload_n hx hb dX5_isSeason_4 rfl (lv_at hl 0 rfl) ?_
    refine lv_iconst (v := 4) hx hb dX5_isSeason_5 (by decide) ?_
    refine lv_icmp_ge (tgt := 13) hx hb dX5_isSeason_6 (by decide) (fun c6 => ?_) (fun c6 => ?_)
    · refine lv_iconst (v := 0) hx hb dX5_isSeason_13 (by decide) ?_
      exact ro_zret hx hb hr (rfl) (Eq.trans (if_neg c1) (Eq.trans (if_pos c6) (rfl))) dX5_isSeason_14 hlocks
    · refine lv_iconst (v := 1) hx hb dX5_isSeason_9 (by decide) ?_
      refine lv_goto (tgt := 14) hx hb dX5_isSeason_10 (by decide) ?_
      exact ro_zret hx hb hr (rfl) (Eq.trans (if_neg c1) (Eq.trans (if_neg c6) (rfl))) dX5_isSeason_14 hlocks
theorem zb_X5_isSeason {x1 : Int32} : narrow .boolean (.int (sp_X5_isSeason x1)) = .int (sp_X5_isSeason x1) := by
  unfold sp_X5_isSeason
  (repeat' split) <;> first | rfl

def sp_X5_isIn (x1 x2 x3 : Int32) : Int32 :=
  if x1 < x2 then ((0 : Int32)) else (if x3 < x1 then ((0 : Int32)) else ((1 : Int32)))
set_option maxHeartbeats 4000000 in
set_option maxRecDepth 100000 in
theorem c_X5_isIn (l : Launch) (D : va_G) (cI cC cW : ClassId) (t : Nat → Nat) (x1 x2 x3 : Int32)  : Met l yX5_isIn wsX5_isIn ({ frames := 0, cells := 0, slots := 0, locals := 0 }) (va_Pc [.int x1, .int x2, .int x3] (roP D (tyL cI cC cW) [] t)) (vp_Si (fun r => r = sp_X5_isIn x1 x2 x3)) 0 0 (fun _ => False) := by
  refine Met.ofW (cc := cX5_isIn) (maxL := 3) (ret := (some .boolean)) (by decide) rfl ?_
  intro p e s m args below meth c s₁ B hml hv
  obtain ⟨rfl, hP, hK, hX⟩ := hv
  have hx := B.exec
  have hb := B.bytes
  have hr := B.returns
  have hts := atoms_spec (ws := wsX5_isIn) B.pre
  have hown : s.vm.findClass RX5 = some m.cls := findClass_of_methodNamed B.named
  have hlocks := B.notSynchronized
  have hS : va_S (fun _ => False) s.heap s.heap [] := va_S.rf
  have hl := lv_entry ([.int x1, .int x2, .int x3]) (n := 3) (Nat.le_of_ble_eq_true rfl)
  rw [lg_entry_eq]
  generalize (lg_sl ([.int x1, .int x2, .int x3]) ++ List.replicate (3 - (lg_sl ([.int x1, .int x2, .int x3])).length) Slot.unset).toArray = ls at hl ⊢
  have hl : lv_has ls 3 [(0, .int x1), (1, .int x2), (2, .int x3)] := hl
  refine lv_iload_n hx hb dX5_isIn_0 rfl (lv_at hl 0 rfl) ?_
  refine lv_iload_n hx hb dX5_isIn_1 rfl (lv_at hl 1 rfl) ?_
  refine lv_icmp_lt (tgt := 14) hx hb dX5_isIn_2 (by decide) (fun c2 => ?_) (fun c2 => ?_)
  · refine lv_iconst (v := 0) hx hb dX5_isIn_14 (by decide) ?_
    exact ro_zret hx hb hr (rfl) (Eq.trans (if_pos c2) (rfl)) dX5_isIn_15 hlocks
  · refine lv_iload_n hx hb dX5_isIn_5 rfl (lv_at hl 0 rfl) ?_
    refine lv_iload_n hx hb dX5_isIn_6 rfl (lv_at hl 2 rfl) ?_
    refine lv_icmp_gt (tgt := 14) hx hb dX5_isIn_7 (by decide) (fun c7 => ?_) (fun c7 => ?_)
    · refine lv_iconst (v := 0) hx hb dX5_isIn_14 (by decide) ?_
      exact ro_zret hx hb hr (rfl) (Eq.trans (if_neg c2) (Eq.trans (if_pos c7) (rfl))) dX5_isIn_15 hlocks
    · refine lv_iconst (v := 1) hx hb dX5_isIn_10 (by decide) ?_
      refine lv_goto (tgt := 15) hx hb dX5_isIn_11 (by decide) ?_
      exact ro_zret hx hb hr (rfl) (Eq.trans (if_neg c2) (Eq.trans (if_neg c7) (rfl))) dX5_isIn_15 hlocks
theorem zb_X5_isIn {x1 x2 x3 : Int32} : narrow .boolean (.int (sp_X5_isIn x1 x2 x3)) = .int (sp_X5_isIn x1 x2 x3) := by
  unfold sp_X5_isIn
  (repeat' split) <;> first | rfl

def sp_X2_isSlot (x1 : Int32) : Int32 :=
  if x1 < 0 then ((0 : Int32)) else (if (60 : Int32) ≤ x1 then ((0 : Int32)) else ((1 : Int32)))
set_option maxHeartbeats 4000000 in
set_option maxRecDepth 100000 in
theorem c_X2_isSlot (l : Launch) (D : va_G) (cI cC cW : ClassId) (t : Nat → Nat) (x1 : Int32)  : Met l yX2_isSlot wsX2_isSlot ({ frames := 0, cells := 0, slots := 0, locals := 0 }) (va_Pc [.int x1] (roP D (tyL cI cC cW) [] t)) (vp_Si (fun r => r = sp_X2_isSlot x1)) 0 0 (fun _ => False) := by
  refine Met.ofW (cc := cX2_isSlot) (maxL := 1) (ret := (some .boolean)) (by decide) rfl ?_
  intro p e s m args below meth c s₁ B hml hv
  obtain ⟨rfl, hP, hK, hX⟩ := hv
  have hx := B.exec
  have hb := B.bytes
  have hr := B.returns
  have hts := atoms_spec (ws := wsX2_isSlot) B.pre
  have hown : s.vm.findClass RX2 = some m.cls := findClass_of_methodNamed B.named
  have hlocks := B.notSynchronized
  have hS : va_S (fun _ => False) s.heap s.heap [] := va_S.rf
  have hl := lv_entry ([.int x1]) (n := 1) (Nat.le_of_ble_eq_true rfl)
  rw [lg_entry_eq]
  generalize (lg_sl ([.int x1]) ++ List.replicate (1 - (lg_sl ([.int x1])).length) Slot.unset).toArray = ls at hl ⊢
  have hl : lv_has ls 1 [(0, .int x1)] := hl
  refine lv_iload_n hx hb dX2_isSlot_0 rfl (lv_at hl 0 rfl) ?_
  refine lv_if_lt (tgt := 14) hx hb dX2_isSlot_1 (by decide) (fun c1 => ?_) (fun c1 => ?_)
  · refine lv_iconst (v := 0) hx hb dX2_isSlot_14 (by decide) ?_
    exact ro_zret hx hb hr (rfl) (Eq.trans (if_pos c1) (rfl)) dX2_isSlot_15 hlocks
  · refine lv_iload_n hx hb dX2_isSlot_4 rfl (lv_at hl 0 rfl) ?_
    refine lv_bipush (v := 60) hx hb dX2_isSlot_5 (by decide) ?_
    refine lv_icmp_ge (tgt := 14) hx hb dX2_isSlot_7 (by decide) (fun c7 => ?_) (fun c7 => ?_)
    · refine lv_iconst (v := 0) hx hb dX2_isSlot_14 (by decide) ?_
      exact ro_zret hx hb hr (rfl) (Eq.trans (if_neg c1) (Eq.trans (if_pos c7) (rfl))) dX2_isSlot_15 hlocks
    · refine lv_iconst (v := 1) hx hb dX2_isSlot_10 (by decide) ?_
      refine lv_goto (tgt := 15) hx hb dX2_isSlot_11 (by decide) ?_
      exact ro_zret hx hb hr (rfl) (Eq.trans (if_neg c1) (Eq.trans (if_neg c7) (rfl))) dX2_isSlot_15 hlocks
theorem zb_X2_isSlot {x1 : Int32} : narrow .boolean (.int (sp_X2_isSlot x1)) = .int (sp_X2_isSlot x1) := by
  unfold sp_X2_isSlot
  (repeat' split) <;> first | rfl

def sp_X2_heaviestAt (x1 : Int32) : Int32 :=
  if x1 < 0 then ((0 : Int32)) else (if (60 : Int32) ≤ x1 then ((0 : Int32)) else ((hvyS (ix (x1 - x1 / (6 : Int32) * (6 : Int32))))))
set_option maxHeartbeats 4000000 in
set_option maxRecDepth 100000 in
theorem c_X2_heaviestAt (l : Launch) (D : va_G) (cI cC cW : ClassId) (t : Nat → Nat) (x1 : Int32)  : Met l yX2_heaviestAt wsX2_heaviestAt ({ frames := 0, cells := 0, slots := 0, locals := 0 }) (va_Pc [.int x1] (roP D (tyL cI cC cW) [] t)) (vp_Si (fun r => r = sp_X2_heaviestAt x1)) 0 0 (fun _ => False) := by
  refine Met.ofW (cc := cX2_heaviestAt) (maxL := 1) (ret := (some .int)) (by decide) rfl ?_
  intro p e s m args below meth c s₁ B hml hv
  obtain ⟨rfl, hP, hK, hX⟩ := hv
  have hx := B.exec
  have hb := B.bytes
  have hr := B.returns
  have hts := atoms_spec (ws := wsX2_heaviestAt) B.pre
  have hown : s.vm.findClass RX2 = some m.cls := findClass_of_methodNamed B.named
  have hlocks := B.notSynchronized
  have hS : va_S (fun _ => False) s.heap s.heap [] := va_S.rf
  have wd1 : (Cond.fieldLink RX2 13 "PickSlots$Slots" "HEAVIEST" "[I").before [.int x1].toArray s = true := hts _ (List.mem_of_getElem? (i := 1) rfl)
  have hl := lv_entry ([.int x1]) (n := 1) (Nat.le_of_ble_eq_true rfl)
  rw [lg_entry_eq]
  generalize (lg_sl ([.int x1]) ++ List.replicate (1 - (lg_sl ([.int x1])).length) Slot.unset).toArray = ls at hl ⊢
  have hl : lv_has ls 1 [(0, .int x1)] := hl
  refine lv_iload_n hx hb dX2_heaviestAt_0 rfl (lv_at hl 0 rfl) ?_
  refine lv_if_lt (tgt := 21) hx hb dX2_heaviestAt_1 (by decide) (fun c1 => ?_) (fun c1 => ?_)
  · refine lv_iconst (v := 0) hx hb dX2_heaviestAt_21 (by decide) ?_
    exact ro_ret hx hb hr (Eq.trans (if_pos c1) (rfl)) dX2_heaviestAt_22 hlocks
  · refine lv_iload_n hx hb dX2_heaviestAt_4 rfl (lv_at hl 0 rfl) ?_
    refine lv_bipush (v := 60) hx hb dX2_heaviestAt_5 (by decide) ?_
    refine lv_icmp_ge (tgt := 21) hx hb dX2_heaviestAt_7 (by decide) (fun c7 => ?_) (fun c7 => ?_)
    · refine lv_iconst (v := 0) hx hb dX2_heaviestAt_21 (by decide) ?_
      exact ro_ret hx hb hr (Eq.trans (if_neg c1) (Eq.trans (if_pos c7) (rfl))) dX2_heaviestAt_22 hlocks
    · refine va_gets hx hb hX.2.2.1.1 hS hown wd1 (fun _ h9 => h9) dX2_heaviestAt_10 ?_
      refine lv_iload_n hx hb dX2_heaviestAt_13 rfl (lv_at hl 0 rfl) ?_
      refine lv_bipush (v := 6) hx hb dX2_heaviestAt_14 (by decide) ?_
      refine lv_irem hx hb dX2_heaviestAt_16 (by first | assumption | decide) ?_
      refine va_ti hx hb hX.2.2.1.2 hS (rem6_in c1) rfl dX2_heaviestAt_17 ?_
      refine lv_goto (tgt := 22) hx hb dX2_heaviestAt_18 (by decide) ?_
      exact ro_ret hx hb hr (Eq.trans (if_neg c1) (Eq.trans (if_neg c7) (rfl))) dX2_heaviestAt_22 hlocks

def sp_X2_walkTo (x1 : Int32) : Int32 :=
  if x1 < 0 then ((0 : Int32)) else (if x1 < (60 : Int32) then (((((4 : Int32) * (x1 / (6 : Int32))) + (4 : Int32)) + (rchS (ix (x1 - x1 / (6 : Int32) * (6 : Int32)))))) else ((0 : Int32)))
set_option maxHeartbeats 4000000 in
set_option maxRecDepth 100000 in
theorem c_X2_walkTo (l : Launch) (D : va_G) (cI cC cW : ClassId) (t : Nat → Nat) (x1 : Int32)  : Met l yX2_walkTo wsX2_walkTo ({ frames := 0, cells := 0, slots := 0, locals := 0 }) (va_Pc [.int x1] (roP D (tyL cI cC cW) [] t)) (vp_Si (fun r => r = sp_X2_walkTo x1)) 0 0 (fun _ => False) := by
  refine Met.ofW (cc := cX2_walkTo) (maxL := 1) (ret := (some .int)) (by decide) rfl ?_
  intro p e s m args below meth c s₁ B hml hv
  obtain ⟨rfl, hP, hK, hX⟩ := hv
  have hx := B.exec
  have hb := B.bytes
  have hr := B.returns
  have hts := atoms_spec (ws := wsX2_walkTo) B.pre
  have hown : s.vm.findClass RX2 = some m.cls := findClass_of_methodNamed B.named
  have hlocks := B.notSynchronized
  have hS : va_S (fun _ => False) s.heap s.heap [] := va_S.rf
  have wd1 : (Cond.fieldLink RX2 9 "PickSlots$Slots" "REACHES" "[I").before [.int x1].toArray s = true := hts _ (List.mem_of_getElem? (i := 1) rfl)
  have hl := lv_entry ([.int x1]) (n := 1) (Nat.le_of_ble_eq_true rfl)
  rw [lg_entry_eq]
  generalize (lg_sl ([.int x1]) ++ List.replicate (1 - (lg_sl ([.int x1])).length) Slot.unset).toArray = ls at hl ⊢
  have hl : lv_has ls 1 [(0, .int x1)] := hl
  refine lv_iload_n hx hb dX2_walkTo_0 rfl (lv_at hl 0 rfl) ?_
  refine lv_if_lt (tgt := 10) hx hb dX2_walkTo_1 (by decide) (fun c1 => ?_) (fun c1 => ?_)
  · refine lv_iconst (v := 0) hx hb dX2_walkTo_10 (by decide) ?_
    exact ro_ret hx hb hr (Eq.trans (if_pos c1) (rfl)) dX2_walkTo_11 hlocks
  · refine lv_iload_n hx hb dX2_walkTo_4 rfl (lv_at hl 0 rfl) ?_
    refine lv_bipush (v := 60) hx hb dX2_walkTo_5 (by decide) ?_
    refine lv_icmp_lt (tgt := 12) hx hb dX2_walkTo_7 (by decide) (fun c7 => ?_) (fun c7 => ?_)
    · refine lv_iconst (v := 4) hx hb dX2_walkTo_12 (by decide) ?_
      refine lv_iload_n hx hb dX2_walkTo_13 rfl (lv_at hl 0 rfl) ?_
      refine lv_bipush (v := 6) hx hb dX2_walkTo_14 (by decide) ?_
      refine lv_idiv hx hb dX2_walkTo_16 (by first | assumption | decide) ?_
      refine lv_imul hx hb dX2_walkTo_17 ?_
      refine lv_iconst (v := 4) hx hb dX2_walkTo_18 (by decide) ?_
      refine lv_iadd hx hb dX2_walkTo_19 ?_
      refine va_gets hx hb hX.2.1.1 hS hown wd1 (fun _ h9 => h9) dX2_walkTo_20 ?_
      refine lv_iload_n hx hb dX2_walkTo_23 rfl (lv_at hl 0 rfl) ?_
      refine lv_bipush (v := 6) hx hb dX2_walkTo_24 (by decide) ?_
      refine lv_irem hx hb dX2_walkTo_26 (by first | assumption | decide) ?_
      refine va_ti hx hb hX.2.1.2 hS (rem6_in c1) rfl dX2_walkTo_27 ?_
      refine lv_iadd hx hb dX2_walkTo_28 ?_
      exact ro_ret hx hb hr (Eq.trans (if_neg c1) (Eq.trans (if_pos c7) (rfl))) dX2_walkTo_29 hlocks
    · refine lv_iconst (v := 0) hx hb dX2_walkTo_10 (by decide) ?_
      exact ro_ret hx hb hr (Eq.trans (if_neg c1) (Eq.trans (if_neg c7) (rfl))) dX2_walkTo_11 hlocks

def sp_X6_in (x1 x2 x3 : Int32) : Int32 :=
  if x1 < x2 then ((0 : Int32)) else (if x3 < x1 then ((0 : Int32)) else ((1 : Int32)))
theorem zb_X6_in {x1 x2 x3 : Int32} : narrow .boolean (.int (sp_X6_in x1 x2 x3)) = .int (sp_X6_in x1 x2 x3) := by
  unfold sp_X6_in
  (repeat' split) <;> first | rfl

def sp_X6_isSlot (x1 : Int32) : Int32 :=
  (sp_X6_in x1 (0 : Int32) (59 : Int32))
theorem zb_X6_isSlot {x1 : Int32} : narrow .boolean (.int (sp_X6_isSlot x1)) = .int (sp_X6_isSlot x1) := by
  unfold sp_X6_isSlot
  (repeat' split) <;> first | (with_reducible exact zb_X6_in) | rfl

def sp_X6_reach (x1 : Int32) : Int32 :=
  if (x1 - x1 / (6 : Int32) * (6 : Int32)) = 0 then ((3 : Int32)) else (if (3 : Int32) ≤ (x1 - x1 / (6 : Int32) * (6 : Int32)) then (if (x1 - x1 / (6 : Int32) * (6 : Int32)) = (3 : Int32) then ((2 : Int32)) else (if (x1 - x1 / (6 : Int32) * (6 : Int32)) = (4 : Int32) then ((5 : Int32)) else ((9 : Int32)))) else ((0 : Int32)))
def sp_X6_walk (x1 : Int32) : Int32 :=
  ((((x1 / (6 : Int32)) * (4 : Int32)) + (4 : Int32)) + (sp_X6_reach x1))
def sp_X6_most (x1 : Int32) : Int32 :=
  if x1 = 0 then ((40 : Int32)) else (if x1 = (1 : Int32) then ((30 : Int32)) else (if x1 = (2 : Int32) then ((20 : Int32)) else (if x1 = (3 : Int32) then ((15 : Int32)) else (if x1 = (4 : Int32) then ((8 : Int32)) else ((5 : Int32))))))
def sp_X4_isGood (N : Nat → Int32) (G : Nat → Int32) (x1 : Int32) : Int32 :=
  if x1 < 0 then ((0 : Int32)) else (if (N 0) ≤ x1 then ((0 : Int32)) else ((1 : Int32)))
set_option maxHeartbeats 4000000 in
set_option maxRecDepth 100000 in
theorem c_X4_isGood (l : Launch) (D : va_G) (cI cC cW : ClassId) (t : Nat → Nat) (a : Nat → Nat) (N : Nat → Int32) (G : Nat → Int32) (x1 : Int32)  : Met l yX4_isGood wsX4_isGood ({ frames := 0, cells := 0, slots := 0, locals := 0 }) (va_Pc [.ref (a 0), .int x1] (roP D (tyL cI cC cW) (wg cI a N G) t)) (vp_Si (fun r => r = sp_X4_isGood N G x1)) 0 0 (fun _ => False) := by
  refine Met.ofW (cc := cX4_isGood) (maxL := 2) (ret := (some .boolean)) (by decide) rfl ?_
  intro p e s m args below meth c s₁ B hml hv
  obtain ⟨rfl, hP, hK, hX⟩ := hv
  have hx := B.exec
  have hb := B.bytes
  have hr := B.returns
  have hts := atoms_spec (ws := wsX4_isGood) B.pre
  have hown : s.vm.findClass RX4 = some m.cls := findClass_of_methodNamed B.named
  have hlocks := B.notSynchronized
  have hS : va_S (fun _ => False) s.heap s.heap [] := va_S.rf
  have wd1 : (Cond.fieldLink RX4 59 "PickSlots$Warehouse" "goods" "I").before [.ref (a 0), .int x1].toArray s = true := hts _ (List.mem_of_getElem? (i := 1) rfl)
  have hi4 : ∀ w ∈ wsX40, w ∈ wsX4_isGood := fun w h => List.mem_cons_of_mem _ (List.mem_append_right _ (h))
  have hl := lv_entry ([.ref (a 0), .int x1]) (n := 2) (Nat.le_of_ble_eq_true rfl)
  rw [lg_entry_eq]
  generalize (lg_sl ([.ref (a 0), .int x1]) ++ List.replicate (2 - (lg_sl ([.ref (a 0), .int x1])).length) Slot.unset).toArray = ls at hl ⊢
  have hl : lv_has ls 2 [(0, .ref (a 0)), (1, .int x1)] := hl
  refine lv_iload_n hx hb dX4_isGood_0 rfl (lv_at hl 1 rfl) ?_
  refine lv_if_lt (tgt := 16) hx hb dX4_isGood_1 (by decide) (fun c1 => ?_) (fun c1 => ?_)
  · refine lv_iconst (v := 0) hx hb dX4_isGood_16 (by decide) ?_
    exact ro_zret hx hb hr (rfl) (Eq.trans (if_pos c1) (rfl)) dX4_isGood_17 hlocks
  · refine lv_iload_n hx hb dX4_isGood_4 rfl (lv_at hl 1 rfl) ?_
    refine lv_aload_n hx hb dX4_isGood_5 rfl (lv_at hl 0 rfl) ?_
    refine va_get (D := D) (ci := 3) (C := RX4) (T := TX4) (N := 13) hx hb hts hi4 hown hK hP 0 wg_0 rfl 11 (by decide) wd1 (fun _ h9 => h9) rfl dX4_isGood_6 ?_
    refine lv_icmp_ge (tgt := 16) hx hb dX4_isGood_9 (by decide) (fun c9 => ?_) (fun c9 => ?_)
    · refine lv_iconst (v := 0) hx hb dX4_isGood_16 (by decide) ?_
      exact ro_zret hx hb hr (rfl) (Eq.trans (if_neg c1) (Eq.trans (if_pos c9) (rfl))) dX4_isGood_17 hlocks
    · refine lv_iconst (v := 1) hx hb dX4_isGood_12 (by decide) ?_
      refine lv_goto (tgt := 17) hx hb dX4_isGood_13 (by decide) ?_
      exact ro_zret hx hb hr (rfl) (Eq.trans (if_neg c1) (Eq.trans (if_neg c9) (rfl))) dX4_isGood_17 hlocks
theorem zb_X4_isGood {N : Nat → Int32} {G : Nat → Int32} {x1 : Int32} : narrow .boolean (.int (sp_X4_isGood N G x1)) = .int (sp_X4_isGood N G x1) := by
  unfold sp_X4_isGood
  (repeat' split) <;> first | rfl

def sp_X4_presentSeason (N : Nat → Int32) (G : Nat → Int32) : Int32 :=
  (((N 1) / (13 : Int32)) - ((N 1) / (13 : Int32)) / (4 : Int32) * (4 : Int32))
set_option maxHeartbeats 4000000 in
set_option maxRecDepth 100000 in
theorem c_X4_presentSeason (l : Launch) (D : va_G) (cI cC cW : ClassId) (t : Nat → Nat) (a : Nat → Nat) (N : Nat → Int32) (G : Nat → Int32)  : Met l yX4_presentSeason wsX4_presentSeason ({ frames := 0, cells := 0, slots := 0, locals := 0 }) (va_Pc [.ref (a 0)] (roP D (tyL cI cC cW) (wg cI a N G) t)) (vp_Si (fun r => r = sp_X4_presentSeason N G)) 0 0 (fun _ => False) := by
  refine Met.ofW (cc := cX4_presentSeason) (maxL := 1) (ret := (some .int)) (by decide) rfl ?_
  intro p e s m args below meth c s₁ B hml hv
  obtain ⟨rfl, hP, hK, hX⟩ := hv
  have hx := B.exec
  have hb := B.bytes
  have hr := B.returns
  have hts := atoms_spec (ws := wsX4_presentSeason) B.pre
  have hown : s.vm.findClass RX4 = some m.cls := findClass_of_methodNamed B.named
  have hlocks := B.notSynchronized
  have hS : va_S (fun _ => False) s.heap s.heap [] := va_S.rf
  have wd1 : (Cond.fieldLink RX4 63 "PickSlots$Warehouse" "week" "I").before [.ref (a 0)].toArray s = true := hts _ (List.mem_of_getElem? (i := 1) rfl)
  have hi4 : ∀ w ∈ wsX40, w ∈ wsX4_presentSeason := fun w h => List.mem_cons_of_mem _ (List.mem_append_right _ (h))
  have hl := lv_entry ([.ref (a 0)]) (n := 1) (Nat.le_of_ble_eq_true rfl)
  rw [lg_entry_eq]
  generalize (lg_sl ([.ref (a 0)]) ++ List.replicate (1 - (lg_sl ([.ref (a 0)])).length) Slot.unset).toArray = ls at hl ⊢
  have hl : lv_has ls 1 [(0, .ref (a 0))] := hl
  refine lv_aload_n hx hb dX4_presentSeason_0 rfl (lv_at hl 0 rfl) ?_
  refine va_get (D := D) (ci := 3) (C := RX4) (T := TX4) (N := 13) hx hb hts hi4 hown hK hP 0 wg_0 rfl 12 (by decide) wd1 (fun _ h9 => h9) rfl dX4_presentSeason_1 ?_
  refine lv_bipush (v := 13) hx hb dX4_presentSeason_4 (by decide) ?_
  refine lv_idiv hx hb dX4_presentSeason_6 (by first | assumption | decide) ?_
  refine lv_iconst (v := 4) hx hb dX4_presentSeason_7 (by decide) ?_
  refine lv_irem hx hb dX4_presentSeason_8 (by first | assumption | decide) ?_
  exact ro_ret hx hb hr (rfl) dX4_presentSeason_9 hlocks

def sp_X4_weeksLeft (N : Nat → Int32) (G : Nat → Int32) : Int32 :=
  ((13 : Int32) - ((N 1) - (N 1) / (13 : Int32) * (13 : Int32)))
set_option maxHeartbeats 4000000 in
set_option maxRecDepth 100000 in
theorem c_X4_weeksLeft (l : Launch) (D : va_G) (cI cC cW : ClassId) (t : Nat → Nat) (a : Nat → Nat) (N : Nat → Int32) (G : Nat → Int32)  : Met l yX4_weeksLeft wsX4_weeksLeft ({ frames := 0, cells := 0, slots := 0, locals := 0 }) (va_Pc [.ref (a 0)] (roP D (tyL cI cC cW) (wg cI a N G) t)) (vp_Si (fun r => r = sp_X4_weeksLeft N G)) 0 0 (fun _ => False) := by
  refine Met.ofW (cc := cX4_weeksLeft) (maxL := 1) (ret := (some .int)) (by decide) rfl ?_
  intro p e s m args below meth c s₁ B hml hv
  obtain ⟨rfl, hP, hK, hX⟩ := hv
  have hx := B.exec
  have hb := B.bytes
  have hr := B.returns
  have hts := atoms_spec (ws := wsX4_weeksLeft) B.pre
  have hown : s.vm.findClass RX4 = some m.cls := findClass_of_methodNamed B.named
  have hlocks := B.notSynchronized
  have hS : va_S (fun _ => False) s.heap s.heap [] := va_S.rf
  have wd1 : (Cond.fieldLink RX4 63 "PickSlots$Warehouse" "week" "I").before [.ref (a 0)].toArray s = true := hts _ (List.mem_of_getElem? (i := 1) rfl)
  have hi4 : ∀ w ∈ wsX40, w ∈ wsX4_weeksLeft := fun w h => List.mem_cons_of_mem _ (List.mem_append_right _ (h))
  have hl := lv_entry ([.ref (a 0)]) (n := 1) (Nat.le_of_ble_eq_true rfl)
  rw [lg_entry_eq]
  generalize (lg_sl ([.ref (a 0)]) ++ List.replicate (1 - (lg_sl ([.ref (a 0)])).length) Slot.unset).toArray = ls at hl ⊢
  have hl : lv_has ls 1 [(0, .ref (a 0))] := hl
  refine lv_bipush (v := 13) hx hb dX4_weeksLeft_0 (by decide) ?_
  refine lv_aload_n hx hb dX4_weeksLeft_2 rfl (lv_at hl 0 rfl) ?_
  refine va_get (D := D) (ci := 3) (C := RX4) (T := TX4) (N := 13) hx hb hts hi4 hown hK hP 0 wg_0 rfl 12 (by decide) wd1 (fun _ h9 => h9) rfl dX4_weeksLeft_3 ?_
  refine lv_bipush (v := 13) hx hb dX4_weeksLeft_6 (by decide) ?_
  refine lv_irem hx hb dX4_weeksLeft_8 (by first | assumption | decide) ?_
  refine lv_isub hx hb dX4_weeksLeft_9 ?_
  exact ro_ret hx hb hr (rfl) dX4_weeksLeft_10 hlocks

def sp_X4_demandOf (N : Nat → Int32) (G : Nat → Int32) (x1 x2 : Int32) : Int32 :=
  (N (18 + 11 * ((ix ((x1 * (4 : Int32)) + x2)) / 4) + (ix ((x1 * (4 : Int32)) + x2)) % 4))
set_option maxHeartbeats 4000000 in
set_option maxRecDepth 100000 in
theorem c_X4_demandOf (l : Launch) (D : va_G) (cI cC cW : ClassId) (t : Nat → Nat) (a : Nat → Nat) (N : Nat → Int32) (G : Nat → Int32) (x1 x2 : Int32) (h1 : vp_in x1 20) (h2 : vp_in x2 4) : Met l yX4_demandOf wsX4_demandOf ({ frames := 0, cells := 0, slots := 0, locals := 0 }) (va_Pc [.ref (a 0), .int x1, .int x2] (roP D (tyL cI cC cW) (wg cI a N G) t)) (vp_Si (fun r => r = sp_X4_demandOf N G x1 x2)) 0 0 (fun _ => False) := by
  refine Met.ofW (cc := cX4_demandOf) (maxL := 3) (ret := (some .int)) (by decide) rfl ?_
  intro p e s m args below meth c s₁ B hml hv
  obtain ⟨rfl, hP, hK, hX⟩ := hv
  have hx := B.exec
  have hb := B.bytes
  have hr := B.returns
  have hts := atoms_spec (ws := wsX4_demandOf) B.pre
  have hown : s.vm.findClass RX4 = some m.cls := findClass_of_methodNamed B.named
  have hlocks := B.notSynchronized
  have hS : va_S (fun _ => False) s.heap s.heap [] := va_S.rf
  have wd1 : (Cond.fieldLink RX4 18 "PickSlots$Warehouse" "seasonDemands" "[I").before [.ref (a 0), .int x1, .int x2].toArray s = true := hts _ (List.mem_of_getElem? (i := 1) rfl)
  have hi4 : ∀ w ∈ wsX40, w ∈ wsX4_demandOf := fun w h => List.mem_cons_of_mem _ (List.mem_append_right _ (h))
  have hl := lv_entry ([.ref (a 0), .int x1, .int x2]) (n := 3) (Nat.le_of_ble_eq_true rfl)
  rw [lg_entry_eq]
  generalize (lg_sl ([.ref (a 0), .int x1, .int x2]) ++ List.replicate (3 - (lg_sl ([.ref (a 0), .int x1, .int x2])).length) Slot.unset).toArray = ls at hl ⊢
  have hl : lv_has ls 3 [(0, .ref (a 0)), (1, .int x1), (2, .int x2)] := hl
  refine lv_aload_n hx hb dX4_demandOf_0 rfl (lv_at hl 0 rfl) ?_
  refine va_get (D := D) (ci := 3) (C := RX4) (T := TX4) (N := 13) hx hb hts hi4 hown hK hP 0 wg_0 rfl 2 (by decide) wd1 (fun _ h9 => h9) rfl dX4_demandOf_1 ?_
  refine lv_iload_n hx hb dX4_demandOf_4 rfl (lv_at hl 1 rfl) ?_
  refine lv_iconst (v := 4) hx hb dX4_demandOf_5 (by decide) ?_
  refine lv_imul hx hb dX4_demandOf_6 ?_
  refine lv_iload_n hx hb dX4_demandOf_7 rfl (lv_at hl 2 rfl) ?_
  refine lv_iadd hx hb dX4_demandOf_8 ?_
  refine va_iald hx hb hK hP 3 0 wg_3 rfl (dm80 h1 h2) dX4_demandOf_9 ?_
  exact ro_ret hx hb hr (rfl) dX4_demandOf_10 hlocks

def sp_X4_isPlaced (N : Nat → Int32) (G : Nat → Int32) (x1 : Int32) : Int32 :=
  (sp_X2_isSlot (N (22 + 11 * (ix x1))))
set_option maxHeartbeats 4000000 in
set_option maxRecDepth 100000 in
theorem c_X4_isPlaced (l : Launch) (D : va_G) (cI cC cW : ClassId) (t : Nat → Nat) (a : Nat → Nat) (N : Nat → Int32) (G : Nat → Int32) (x1 : Int32) (h1 : vp_in x1 20) : Met l yX4_isPlaced wsX4_isPlaced ({ frames := 1, cells := 0, slots := 0, locals := 20 }) (va_Pc [.ref (a 0), .int x1] (roP D (tyL cI cC cW) (wg cI a N G) t)) (vp_Si (fun r => r = sp_X4_isPlaced N G x1)) 0 0 (fun _ => False) := by
  refine Met.ofW (cc := cX4_isPlaced) (maxL := 2) (ret := (some .boolean)) (by decide) rfl ?_
  intro p e s m args below meth c s₁ B hml hv
  obtain ⟨rfl, hP, hK, hX⟩ := hv
  have hx := B.exec
  have hb := B.bytes
  have hr := B.returns
  have hts := atoms_spec (ws := wsX4_isPlaced) B.pre
  have hown : s.vm.findClass RX4 = some m.cls := findClass_of_methodNamed B.named
  have hlocks := B.notSynchronized
  have hS : va_S (fun _ => False) s.heap s.heap [] := va_S.rf
  have wd1 : (Cond.fieldLink RX4 21 "PickSlots$Warehouse" "slotOfGood" "[I").before [.ref (a 0), .int x1].toArray s = true := hts _ (List.mem_of_getElem? (i := 1) rfl)
  have hi4 : ∀ w ∈ wsX40, w ∈ wsX4_isPlaced := fun w h => List.mem_cons_of_mem _ (List.mem_append_right _ (h))
  have CF : CallFix p m c cX4_isPlaced 2 s [.ref (a 0), .int x1].toArray wsX4_isPlaced RX4 := ⟨hx, hb, hml, hown, hts⟩
  have hl := lv_entry ([.ref (a 0), .int x1]) (n := 2) (Nat.le_of_ble_eq_true rfl)
  rw [lg_entry_eq]
  generalize (lg_sl ([.ref (a 0), .int x1]) ++ List.replicate (2 - (lg_sl ([.ref (a 0), .int x1])).length) Slot.unset).toArray = ls at hl ⊢
  have hl : lv_has ls 2 [(0, .ref (a 0)), (1, .int x1)] := hl
  refine lv_aload_n hx hb dX4_isPlaced_0 rfl (lv_at hl 0 rfl) ?_
  refine va_get (D := D) (ci := 3) (C := RX4) (T := TX4) (N := 13) hx hb hts hi4 hown hK hP 0 wg_0 rfl 3 (by decide) wd1 (fun _ h9 => h9) rfl dX4_isPlaced_1 ?_
  refine lv_iload_n hx hb dX4_isPlaced_4 rfl (lv_at hl 1 rfl) ?_
  refine va_iald hx hb hK hP 4 0 wg_4 rfl (by first | assumption | (unfold vp_in; decide)) dX4_isPlaced_5 ?_
  refine roS CF (c_X2_isSlot l D cI cC cW t _ ) (va_cwS 1 hts gX4_isPlaced_X2_isSlot rfl rfl rfl (by decide +kernel) ⟨Nat.le_of_ble_eq_true rfl, Nat.le_of_ble_eq_true rfl⟩) vP_nil hK hX hS rfl hl.1 rfl (Nat.le_of_ble_eq_true rfl) dX4_isPlaced_6 ⟨Nat.zero_le _, Nat.zero_le _⟩ ?_
  exact ro_zret hx hb hr (zb_X2_isSlot) (rfl) dX4_isPlaced_9 hlocks
theorem zb_X4_isPlaced {N : Nat → Int32} {G : Nat → Int32} {x1 : Int32} : narrow .boolean (.int (sp_X4_isPlaced N G x1)) = .int (sp_X4_isPlaced N G x1) := by
  unfold sp_X4_isPlaced
  (repeat' split) <;> first | (with_reducible exact zb_X2_isSlot) | rfl

def sp_X4_bears (N : Nat → Int32) (G : Nat → Int32) (x1 x2 : Int32) : Int32 :=
  if (sp_X2_heaviestAt x1) < (N (16 + 11 * (ix x2))) then ((0 : Int32)) else ((1 : Int32))
set_option maxHeartbeats 4000000 in
set_option maxRecDepth 100000 in
theorem c_X4_bears (l : Launch) (D : va_G) (cI cC cW : ClassId) (t : Nat → Nat) (a : Nat → Nat) (N : Nat → Int32) (G : Nat → Int32) (x1 x2 : Int32) (h2 : vp_in x2 20) : Met l yX4_bears wsX4_bears ({ frames := 1, cells := 0, slots := 0, locals := 20 }) (va_Pc [.ref (a 0), .int x1, .int x2] (roP D (tyL cI cC cW) (wg cI a N G) t)) (vp_Si (fun r => r = sp_X4_bears N G x1 x2)) 0 0 (fun _ => False) := by
  refine Met.ofW (cc := cX4_bears) (maxL := 3) (ret := (some .boolean)) (by decide) rfl ?_
  intro p e s m args below meth c s₁ B hml hv
  obtain ⟨rfl, hP, hK, hX⟩ := hv
  have hx := B.exec
  have hb := B.bytes
  have hr := B.returns
  have hts := atoms_spec (ws := wsX4_bears) B.pre
  have hown : s.vm.findClass RX4 = some m.cls := findClass_of_methodNamed B.named
  have hlocks := B.notSynchronized
  have hS : va_S (fun _ => False) s.heap s.heap [] := va_S.rf
  have wd1 : (Cond.fieldLink RX4 9 "PickSlots$Warehouse" "weights" "[I").before [.ref (a 0), .int x1, .int x2].toArray s = true := hts _ (List.mem_of_getElem? (i := 1) rfl)
  have hi4 : ∀ w ∈ wsX40, w ∈ wsX4_bears := fun w h => List.mem_cons_of_mem _ (List.mem_append_right _ (h))
  have CF : CallFix p m c cX4_bears 3 s [.ref (a 0), .int x1, .int x2].toArray wsX4_bears RX4 := ⟨hx, hb, hml, hown, hts⟩
  have hl := lv_entry ([.ref (a 0), .int x1, .int x2]) (n := 3) (Nat.le_of_ble_eq_true rfl)
  rw [lg_entry_eq]
  generalize (lg_sl ([.ref (a 0), .int x1, .int x2]) ++ List.replicate (3 - (lg_sl ([.ref (a 0), .int x1, .int x2])).length) Slot.unset).toArray = ls at hl ⊢
  have hl : lv_has ls 3 [(0, .ref (a 0)), (1, .int x1), (2, .int x2)] := hl
  refine lv_aload_n hx hb dX4_bears_0 rfl (lv_at hl 0 rfl) ?_
  refine va_get (D := D) (ci := 3) (C := RX4) (T := TX4) (N := 13) hx hb hts hi4 hown hK hP 0 wg_0 rfl 0 (by decide) wd1 (fun _ h9 => h9) rfl dX4_bears_1 ?_
  refine lv_iload_n hx hb dX4_bears_4 rfl (lv_at hl 2 rfl) ?_
  refine va_iald hx hb hK hP 1 0 wg_1 rfl (by first | assumption | (unfold vp_in; decide)) dX4_bears_5 ?_
  refine lv_iload_n hx hb dX4_bears_6 rfl (lv_at hl 1 rfl) ?_
  refine roS CF (c_X2_heaviestAt l D cI cC cW t _ ) (va_cwS 1 hts gX4_bears_X2_heaviestAt rfl rfl rfl (by decide +kernel) ⟨Nat.le_of_ble_eq_true rfl, Nat.le_of_ble_eq_true rfl⟩) vP_nil hK hX hS rfl hl.1 rfl (Nat.le_of_ble_eq_true rfl) dX4_bears_7 ⟨Nat.zero_le _, Nat.zero_le _⟩ ?_
  refine lv_icmp_gt (tgt := 17) hx hb dX4_bears_10 (by decide) (fun c10 => ?_) (fun c10 => ?_)
  · refine lv_iconst (v := 0) hx hb dX4_bears_17 (by decide) ?_
    exact ro_zret hx hb hr (rfl) (Eq.trans (if_pos c10) (rfl)) dX4_bears_18 hlocks
  · refine lv_iconst (v := 1) hx hb dX4_bears_13 (by decide) ?_
    refine lv_goto (tgt := 18) hx hb dX4_bears_14 (by decide) ?_
    exact ro_zret hx hb hr (rfl) (Eq.trans (if_neg c10) (rfl)) dX4_bears_18 hlocks
theorem zb_X4_bears {N : Nat → Int32} {G : Nat → Int32} {x1 x2 : Int32} : narrow .boolean (.int (sp_X4_bears N G x1 x2)) = .int (sp_X4_bears N G x1 x2) := by
  unfold sp_X4_bears
  (repeat' split) <;> first | rfl

def sp_X4_unitsToBring (N : Nat → Int32) (G : Nat → Int32) (x1 : Int32) : Int32 :=
  (if (N (24 + 11 * (ix x1))) < ((N (17 + 11 * (ix x1))) - (N (23 + 11 * (ix x1)))) then (N (24 + 11 * (ix x1))) else ((N (17 + 11 * (ix x1))) - (N (23 + 11 * (ix x1)))))
set_option maxHeartbeats 4000000 in
set_option maxRecDepth 100000 in
theorem c_X4_unitsToBring (l : Launch) (D : va_G) (cI cC cW : ClassId) (t : Nat → Nat) (a : Nat → Nat) (N : Nat → Int32) (G : Nat → Int32) (x1 : Int32) (h1 : vp_in x1 20) : Met l yX4_unitsToBring wsX4_unitsToBring ({ frames := 1, cells := 0, slots := 0, locals := 13 }) (va_Pc [.ref (a 0), .int x1] (roP D (tyL cI cC cW) (wg cI a N G) t)) (vp_Si (fun r => r = sp_X4_unitsToBring N G x1)) 0 0 (fun _ => False) := by
  refine Met.ofW (cc := cX4_unitsToBring) (maxL := 2) (ret := (some .int)) (by decide) rfl ?_
  intro p e s m args below meth c s₁ B hml hv
  obtain ⟨rfl, hP, hK, hX⟩ := hv
  have hx := B.exec
  have hb := B.bytes
  have hr := B.returns
  have hts := atoms_spec (ws := wsX4_unitsToBring) B.pre
  have hown : s.vm.findClass RX4 = some m.cls := findClass_of_methodNamed B.named
  have hlocks := B.notSynchronized
  have hS : va_S (fun _ => False) s.heap s.heap [] := va_S.rf
  have wd1 : (Cond.fieldLink RX4 15 "PickSlots$Warehouse" "capacities" "[I").before [.ref (a 0), .int x1].toArray s = true := hts _ (List.mem_of_getElem? (i := 1) rfl)
  have wd2 : (Cond.fieldLink RX4 24 "PickSlots$Warehouse" "unitsInSlot" "[I").before [.ref (a 0), .int x1].toArray s = true := hts _ (List.mem_of_getElem? (i := 2) rfl)
  have wd3 : (Cond.fieldLink RX4 27 "PickSlots$Warehouse" "unitsInStore" "[I").before [.ref (a 0), .int x1].toArray s = true := hts _ (List.mem_of_getElem? (i := 3) rfl)
  have wd4 : (Cond.methodLink RX4 66 Lib.Math.min.name).before [.ref (a 0), .int x1].toArray s = true := hts _ (List.mem_of_getElem? (i := 4) rfl)
  have wd5 : (Cond.static Lib.Math.min.name).before [.ref (a 0), .int x1].toArray s = true := hts _ (List.mem_of_getElem? (i := 5) rfl)
  have wd6 : (Cond.initialized "java/lang/Math").before [.ref (a 0), .int x1].toArray s = true := hts _ (List.mem_of_getElem? (i := 6) rfl)
  have wd7 : (Cond.code Lib.Math.min.name Lib.Math.min.code 2 (some .int)).before [.ref (a 0), .int x1].toArray s = true := hts _ (List.mem_of_getElem? (i := 7) rfl)
  have hi4 : ∀ w ∈ wsX40, w ∈ wsX4_unitsToBring := fun w h => List.mem_cons_of_mem _ (List.mem_append_right _ (h))
  have hl := lv_entry ([.ref (a 0), .int x1]) (n := 2) (Nat.le_of_ble_eq_true rfl)
  rw [lg_entry_eq]
  generalize (lg_sl ([.ref (a 0), .int x1]) ++ List.replicate (2 - (lg_sl ([.ref (a 0), .int x1])).length) Slot.unset).toArray = ls at hl ⊢
  have hl : lv_has ls 2 [(0, .ref (a 0)), (1, .int x1)] := hl
  refine lv_aload_n hx hb dX4_unitsToBring_0 rfl (lv_at hl 0 rfl) ?_
  refine va_get (D := D) (ci := 3) (C := RX4) (T := TX4) (N := 13) hx hb hts hi4 hown hK hP 0 wg_0 rfl 1 (by decide) wd1 (fun _ h9 => h9) rfl dX4_unitsToBring_1 ?_
  refine lv_iload_n hx hb dX4_unitsToBring_4 rfl (lv_at hl 1 rfl) ?_
  refine va_iald hx hb hK hP 2 0 wg_2 rfl (by first | assumption | (unfold vp_in; decide)) dX4_unitsToBring_5 ?_
  refine lv_aload_n hx hb dX4_unitsToBring_6 rfl (lv_at hl 0 rfl) ?_
  refine va_get (D := D) (ci := 3) (C := RX4) (T := TX4) (N := 13) hx hb hts hi4 hown hK hP 0 wg_0 rfl 4 (by decide) wd2 (fun _ h9 => h9) rfl dX4_unitsToBring_7 ?_
  refine lv_iload_n hx hb dX4_unitsToBring_10 rfl (lv_at hl 1 rfl) ?_
  refine va_iald hx hb hK hP 5 0 wg_5 rfl (by first | assumption | (unfold vp_in; decide)) dX4_unitsToBring_11 ?_
  refine lv_isub hx hb dX4_unitsToBring_12 ?_
  refine lv_aload_n hx hb dX4_unitsToBring_13 rfl (lv_at hl 0 rfl) ?_
  refine va_get (D := D) (ci := 3) (C := RX4) (T := TX4) (N := 13) hx hb hts hi4 hown hK hP 0 wg_0 rfl 5 (by decide) wd3 (fun _ h9 => h9) rfl dX4_unitsToBring_14 ?_
  refine lv_iload_n hx hb dX4_unitsToBring_17 rfl (lv_at hl 1 rfl) ?_
  refine va_iald hx hb hK hP 6 0 wg_6 rfl (by first | assumption | (unfold vp_in; decide)) dX4_unitsToBring_18 ?_
  refine va_mmin hx hb (hml.trans hl.1.symm) hown wd4 wd5 wd6 wd7 (Nat.le_of_ble_eq_true rfl) (Nat.le_of_ble_eq_true rfl) (Nat.zero_le _) (Nat.zero_le _) dX4_unitsToBring_19 ?_
  exact ro_ret hx hb hr (rfl) dX4_unitsToBring_22 hlocks

def sp_X4_tripsFor (N : Nat → Int32) (G : Nat → Int32) (x1 : Int32) : Int32 :=
  if (1 : Int32) ≤ (N (2 + (ix (1 : Int32)))) then ((((x1 + (N (2 + (ix (1 : Int32))))) - (1 : Int32)) / (N (2 + (ix (1 : Int32)))))) else ((0 : Int32))
set_option maxHeartbeats 4000000 in
set_option maxRecDepth 100000 in
theorem c_X4_tripsFor (l : Launch) (D : va_G) (cI cC cW : ClassId) (t : Nat → Nat) (a : Nat → Nat) (N : Nat → Int32) (G : Nat → Int32) (x1 : Int32)  : Met l yX4_tripsFor wsX4_tripsFor ({ frames := 0, cells := 0, slots := 0, locals := 0 }) (va_Pc [.ref (a 0), .int x1] (roP D (tyL cI cC cW) (wg cI a N G) t)) (vp_Si (fun r => r = sp_X4_tripsFor N G x1)) 0 0 (fun _ => False) := by
  refine Met.ofW (cc := cX4_tripsFor) (maxL := 3) (ret := (some .int)) (by decide) rfl ?_
  intro p e s m args below meth c s₁ B hml hv
  obtain ⟨rfl, hP, hK, hX⟩ := hv
  have hx := B.exec
  have hb := B.bytes
  have hr := B.returns
  have hts := atoms_spec (ws := wsX4_tripsFor) B.pre
  have hown : s.vm.findClass RX4 = some m.cls := findClass_of_methodNamed B.named
  have hlocks := B.notSynchronized
  have hS : va_S (fun _ => False) s.heap s.heap [] := va_S.rf
  have wd1 : (Cond.fieldLink RX4 41 "PickSlots$Warehouse" "settings" "[I").before [.ref (a 0), .int x1].toArray s = true := hts _ (List.mem_of_getElem? (i := 1) rfl)
  have hi4 : ∀ w ∈ wsX40, w ∈ wsX4_tripsFor := fun w h => List.mem_cons_of_mem _ (List.mem_append_right _ (h))
  have hl := lv_entry ([.ref (a 0), .int x1]) (n := 3) (Nat.le_of_ble_eq_true rfl)
  rw [lg_entry_eq]
  generalize (lg_sl ([.ref (a 0), .int x1]) ++ List.replicate (3 - (lg_sl ([.ref (a 0), .int x1])).length) Slot.unset).toArray = ls at hl ⊢
  have hl : lv_has ls 3 [(0, .ref (a 0)), (1, .int x1)] := hl
  refine lv_aload_n hx hb dX4_tripsFor_0 rfl (lv_at hl 0 rfl) ?_
  refine va_get (D := D) (ci := 3) (C := RX4) (T := TX4) (N := 13) hx hb hts hi4 hown hK hP 0 wg_0 rfl 9 (by decide) wd1 (fun _ h9 => h9) rfl dX4_tripsFor_1 ?_
  refine lv_iconst (v := 1) hx hb dX4_tripsFor_4 (by decide) ?_
  refine va_iald hx hb hK hP 10 0 wg_10 rfl (by first | assumption | (unfold vp_in; decide)) dX4_tripsFor_5 ?_
  refine lv_top_eq (wg_rd10 (by first | assumption | (unfold vp_in; decide))) ?_
  refine lv_istore_n (lv' := [(2, .int _), (0, .ref _), (1, .int _)]) hx hb dX4_tripsFor_6 rfl hl (by decide) rfl (fun ls hl => ?_)
  refine lv_iload_n hx hb dX4_tripsFor_7 rfl (lv_at hl 0 rfl) ?_
  refine lv_iconst (v := 1) hx hb dX4_tripsFor_8 (by decide) ?_
  refine lv_icmp_ge (tgt := 16) hx hb dX4_tripsFor_9 (by decide) (fun c9 => ?_) (fun c9 => ?_)
  · refine lv_iload_n hx hb dX4_tripsFor_16 rfl (lv_at hl 2 rfl) ?_
    refine lv_iload_n hx hb dX4_tripsFor_17 rfl (lv_at hl 0 rfl) ?_
    refine lv_iadd hx hb dX4_tripsFor_18 ?_
    refine lv_iconst (v := 1) hx hb dX4_tripsFor_19 (by decide) ?_
    refine lv_isub hx hb dX4_tripsFor_20 ?_
    refine lv_iload_n hx hb dX4_tripsFor_21 rfl (lv_at hl 0 rfl) ?_
    refine lv_idiv hx hb dX4_tripsFor_22 (ne0 c9) ?_
    exact ro_ret hx hb hr (Eq.trans (if_pos c9) (rfl)) dX4_tripsFor_23 hlocks
  · refine lv_iconst (v := 0) hx hb dX4_tripsFor_12 (by decide) ?_
    refine lv_goto (tgt := 23) hx hb dX4_tripsFor_13 (by decide) ?_
    exact ro_ret hx hb hr (Eq.trans (if_neg c9) (rfl)) dX4_tripsFor_23 hlocks
