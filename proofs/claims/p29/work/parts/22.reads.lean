/-! what a warehouse tells (printed by wip/whole/m2.py) -/
def lp4_X2_greatestHeightFor (x1 : Int32) : Nat → Int32 → Int32 → Int32
  | 0, v1, v2 => 0
  | n + 1, v1, v2 => if (6 : Int32) ≤ v2 then (v1) else (if (hvyS (ix v2)) < x1 then (lp4_X2_greatestHeightFor x1 n v1 (v2 + (1 : Int32)) ) else (lp4_X2_greatestHeightFor x1 n v2 (v2 + (1 : Int32)) ))
theorem lp4_X2_greatestHeightFor_s (x1 : Int32) (n : Nat) (v1 : Int32) (v2 : Int32)  : lp4_X2_greatestHeightFor x1 (n + 1) v1 v2 = if (6 : Int32) ≤ v2 then (v1) else (if (hvyS (ix v2)) < x1 then (lp4_X2_greatestHeightFor x1 n v1 (v2 + (1 : Int32)) ) else (lp4_X2_greatestHeightFor x1 n v2 (v2 + (1 : Int32)) )) := rfl
def sp_X2_greatestHeightFor (x1 : Int32) : Int32 :=
  lp4_X2_greatestHeightFor x1 7 (0 : Int32) (0 : Int32) 
set_option maxHeartbeats 4000000 in
set_option maxRecDepth 100000 in
theorem c_X2_greatestHeightFor (l : Launch) (D : va_G) (cI cC cW : ClassId) (t : Nat → Nat) (x1 : Int32)  : Met l yX2_greatestHeightFor wsX2_greatestHeightFor ({ frames := 0, cells := 0, slots := 0, locals := 0 }) (va_Pc [.int x1] (roP D (tyL cI cC cW) [] t)) (vp_Si (fun r => r = sp_X2_greatestHeightFor x1)) 0 0 (fun _ => False) := by
  refine Met.ofW (cc := cX2_greatestHeightFor) (maxL := 3) (ret := (some .int)) (by decide) rfl ?_
  intro p e s m args below meth c s₁ B hml hv
  obtain ⟨rfl, hP, hK, hX⟩ := hv
  have hx := B.exec
  have hb := B.bytes
  have hr := B.returns
  have hts := atoms_spec (ws := wsX2_greatestHeightFor) B.pre
  have hown : s.vm.findClass RX2 = some m.cls := findClass_of_methodNamed B.named
  have hlocks := B.notSynchronized
  have hS : va_S (fun _ => False) s.heap s.heap [] := va_S.rf
  have wd1 : (Cond.fieldLink RX2 13 "PickSlots$Slots" "HEAVIEST" "[I").before [.int x1].toArray s = true := hts _ (List.mem_of_getElem? (i := 1) rfl)
  have hl := lv_entry ([.int x1]) (n := 3) (Nat.le_of_ble_eq_true rfl)
  rw [lg_entry_eq]
  generalize (lg_sl ([.int x1]) ++ List.replicate (3 - (lg_sl ([.int x1])).length) Slot.unset).toArray = ls at hl ⊢
  have hl : lv_has ls 3 [(0, .int x1)] := hl
  refine lv_iconst (v := 0) hx hb dX2_greatestHeightFor_0 (by decide) ?_
  refine lv_istore_n (lv' := [(1, .int _), (0, .int _)]) hx hb dX2_greatestHeightFor_1 rfl hl (by decide) rfl (fun ls hl => ?_)
  refine lv_iconst (v := 0) hx hb dX2_greatestHeightFor_2 (by decide) ?_
  refine lv_istore_n (lv' := [(2, .int _), (1, .int _), (0, .int _)]) hx hb dX2_greatestHeightFor_3 rfl hl (by decide) rfl (fun ls hl => ?_)
  have L4 : ∀ (n4 : Nat) (v1 v2 : Int32), (0 ≤ v2.toInt) → (v2.toInt ≤ (6 : Int32).toInt) → ((6 : Int32).toInt - v2.toInt < (n4 : Int)) → sp_X2_greatestHeightFor x1 = lp4_X2_greatestHeightFor x1 (n4) v1 v2  → ∀ (ls : Array Slot), lv_has ls 3 [(1, .int v1), (2, .int v2), (0, .int x1)] → W p l e (headSpec wsX2_greatestHeightFor ({ frames := 0, cells := 0, slots := 0, locals := 0 } : Room)).room s m [.int x1].toArray below meth c s.heap [] 0 0 (MQ below (vp_Si (fun r => r = sp_X2_greatestHeightFor x1)) [.int x1].toArray s 0 0 (fun _ => False)) (F0 m 4 ls []) := by
    intro n4
    induction n4 with
    | zero => intro v1 v2  i1 i2 im; exfalso; omega
    | succ n4 ih4 =>
      intro v1 v2  i1 i2 im hsp4 ls hl
      refine lv_iload_n hx hb dX2_greatestHeightFor_4 rfl (lv_at hl 1 rfl) ?_
      refine lv_bipush (v := 6) hx hb dX2_greatestHeightFor_5 (by decide) ?_
      refine lv_icmp_ge (tgt := 27) hx hb dX2_greatestHeightFor_7 (by decide) (fun c7 => ?_) (fun c7 => ?_)
      · refine lv_iload_n hx hb dX2_greatestHeightFor_27 rfl (lv_at hl 0 rfl) ?_
        exact ro_ret hx hb hr (Eq.trans hsp4 (Eq.trans (lp4_X2_greatestHeightFor_s _ _ _ _) (Eq.trans (if_pos c7) (rfl)))) dX2_greatestHeightFor_28 hlocks
      · have hv : vp_in v2 6 := cnin 6 rfl i1 c7
        refine lv_iload_n hx hb dX2_greatestHeightFor_10 rfl (lv_at hl 2 rfl) ?_
        refine va_gets hx hb hX.2.2.1.1 hS hown wd1 (fun _ h9 => h9) dX2_greatestHeightFor_11 ?_
        refine lv_iload_n hx hb dX2_greatestHeightFor_14 rfl (lv_at hl 1 rfl) ?_
        refine va_ti hx hb hX.2.2.1.2 hS (by first | (with_reducible first | assumption | exact g20 (by assumption) (by assumption) | exact sl60 (by assumption) | exact s4 (by assumption)) | (unfold vp_in; decide)) rfl dX2_greatestHeightFor_15 ?_
        refine lv_icmp_gt (tgt := 21) hx hb dX2_greatestHeightFor_16 (by decide) (fun c16 => ?_) (fun c16 => ?_)
        · refine lv_iinc (v := _ + (1 : Int32)) (lv' := [(2, .int _), (1, .int _), (0, .int _)]) hx hb dX2_greatestHeightFor_21 hl (k := 1) rfl rfl (by decide) rfl (fun ls hl => ?_)
          refine lv_goto (tgt := 4) hx hb dX2_greatestHeightFor_24 (by decide) ?_
          exact ih4 _ _ (cs1 i1 c7) (cs2 c7) (csm c7 im) (Eq.trans hsp4 (Eq.trans (lp4_X2_greatestHeightFor_s _ _ _ _) (Eq.trans (if_neg c7) (Eq.trans (if_pos c16) (rfl))))) _ (lv_sub hl [1, 0, 2] rfl)
        · refine lv_iload_n hx hb dX2_greatestHeightFor_19 rfl (lv_at hl 1 rfl) ?_
          refine lv_istore_n (lv' := [(1, .int _), (2, .int _), (0, .int _)]) hx hb dX2_greatestHeightFor_20 rfl hl (by decide) rfl (fun ls hl => ?_)
          refine lv_iinc (v := _ + (1 : Int32)) (lv' := [(2, .int _), (1, .int _), (0, .int _)]) hx hb dX2_greatestHeightFor_21 hl (k := 1) rfl rfl (by decide) rfl (fun ls hl => ?_)
          refine lv_goto (tgt := 4) hx hb dX2_greatestHeightFor_24 (by decide) ?_
          exact ih4 _ _ (cs1 i1 c7) (cs2 c7) (csm c7 im) (Eq.trans hsp4 (Eq.trans (lp4_X2_greatestHeightFor_s _ _ _ _) (Eq.trans (if_neg c7) (Eq.trans (if_neg c16) (rfl))))) _ (lv_sub hl [1, 0, 2] rfl)
  exact L4 7 _ _ (by decide) (by decide) (by decide) (rfl) _ (lv_sub hl [1, 0, 2] rfl)

def sp_X2_wayBetween (x1 x2 : Int32) : Int32 :=
  if x1 < 0 then ((0 : Int32)) else (if (60 : Int32) ≤ x1 then ((0 : Int32)) else (if x2 < 0 then ((0 : Int32)) else (if x2 < (60 : Int32) then (((((4 : Int32) * (if 0 ≤ ((x1 / (6 : Int32)) - (x2 / (6 : Int32))) then ((x1 / (6 : Int32)) - (x2 / (6 : Int32))) else 0 - ((x1 / (6 : Int32)) - (x2 / (6 : Int32))))) + (rchS (ix (x1 - x1 / (6 : Int32) * (6 : Int32))))) + (rchS (ix (x2 - x2 / (6 : Int32) * (6 : Int32)))))) else ((0 : Int32)))))
set_option maxHeartbeats 4000000 in
set_option maxRecDepth 100000 in
theorem c_X2_wayBetween (l : Launch) (D : va_G) (cI cC cW : ClassId) (t : Nat → Nat) (x1 x2 : Int32)  : Met l yX2_wayBetween wsX2_wayBetween ({ frames := 1, cells := 0, slots := 0, locals := 13 }) (va_Pc [.int x1, .int x2] (roP D (tyL cI cC cW) [] t)) (vp_Si (fun r => r = sp_X2_wayBetween x1 x2)) 0 0 (fun _ => False) := by
  refine Met.ofW (cc := cX2_wayBetween) (maxL := 3) (ret := (some .int)) (by decide) rfl ?_
  intro p e s m args below meth c s₁ B hml hv
  obtain ⟨rfl, hP, hK, hX⟩ := hv
  have hx := B.exec
  have hb := B.bytes
  have hr := B.returns
  have hts := atoms_spec (ws := wsX2_wayBetween) B.pre
  have hown : s.vm.findClass RX2 = some m.cls := findClass_of_methodNamed B.named
  have hlocks := B.notSynchronized
  have hS : va_S (fun _ => False) s.heap s.heap [] := va_S.rf
  have wd1 : (Cond.methodLink RX2 16 Lib.Math.abs.name).before [.int x1, .int x2].toArray s = true := hts _ (List.mem_of_getElem? (i := 1) rfl)
  have wd2 : (Cond.static Lib.Math.abs.name).before [.int x1, .int x2].toArray s = true := hts _ (List.mem_of_getElem? (i := 2) rfl)
  have wd3 : (Cond.initialized "java/lang/Math").before [.int x1, .int x2].toArray s = true := hts _ (List.mem_of_getElem? (i := 3) rfl)
  have wd4 : (Cond.code Lib.Math.abs.name Lib.Math.abs.code 1 (some .int)).before [.int x1, .int x2].toArray s = true := hts _ (List.mem_of_getElem? (i := 4) rfl)
  have wd5 : (Cond.fieldLink RX2 9 "PickSlots$Slots" "REACHES" "[I").before [.int x1, .int x2].toArray s = true := hts _ (List.mem_of_getElem? (i := 5) rfl)
  have hl := lv_entry ([.int x1, .int x2]) (n := 3) (Nat.le_of_ble_eq_true rfl)
  rw [lg_entry_eq]
  generalize (lg_sl ([.int x1, .int x2]) ++ List.replicate (3 - (lg_sl ([.int x1, .int x2])).length) Slot.unset).toArray = ls at hl ⊢
  have hl : lv_has ls 3 [(0, .int x1), (1, .int x2)] := hl
  refine lv_iload_n hx hb dX2_wayBetween_0 rfl (lv_at hl 0 rfl) ?_
  refine lv_if_lt (tgt := 20) hx hb dX2_wayBetween_1 (by decide) (fun c1 => ?_) (fun c1 => ?_)
  · refine lv_iconst (v := 0) hx hb dX2_wayBetween_20 (by decide) ?_
    exact ro_ret hx hb hr (Eq.trans (if_pos c1) (rfl)) dX2_wayBetween_21 hlocks
  · refine lv_iload_n hx hb dX2_wayBetween_4 rfl (lv_at hl 0 rfl) ?_
    refine lv_bipush (v := 60) hx hb dX2_wayBetween_5 (by decide) ?_
    refine lv_icmp_ge (tgt := 20) hx hb dX2_wayBetween_7 (by decide) (fun c7 => ?_) (fun c7 => ?_)
    · refine lv_iconst (v := 0) hx hb dX2_wayBetween_20 (by decide) ?_
      exact ro_ret hx hb hr (Eq.trans (if_neg c1) (Eq.trans (if_pos c7) (rfl))) dX2_wayBetween_21 hlocks
    · refine lv_iload_n hx hb dX2_wayBetween_10 rfl (lv_at hl 1 rfl) ?_
      refine lv_if_lt (tgt := 20) hx hb dX2_wayBetween_11 (by decide) (fun c11 => ?_) (fun c11 => ?_)
      · refine lv_iconst (v := 0) hx hb dX2_wayBetween_20 (by decide) ?_
        exact ro_ret hx hb hr (Eq.trans (if_neg c1) (Eq.trans (if_neg c7) (Eq.trans (if_pos c11) (rfl)))) dX2_wayBetween_21 hlocks
      · refine lv_iload_n hx hb dX2_wayBetween_14 rfl (lv_at hl 1 rfl) ?_
        refine lv_bipush (v := 60) hx hb dX2_wayBetween_15 (by decide) ?_
        refine lv_icmp_lt (tgt := 22) hx hb dX2_wayBetween_17 (by decide) (fun c17 => ?_) (fun c17 => ?_)
        · refine lv_iload_n hx hb dX2_wayBetween_22 rfl (lv_at hl 0 rfl) ?_
          refine lv_bipush (v := 6) hx hb dX2_wayBetween_23 (by decide) ?_
          refine lv_idiv hx hb dX2_wayBetween_25 (by first | assumption | decide) ?_
          refine lv_iload_n hx hb dX2_wayBetween_26 rfl (lv_at hl 1 rfl) ?_
          refine lv_bipush (v := 6) hx hb dX2_wayBetween_27 (by decide) ?_
          refine lv_idiv hx hb dX2_wayBetween_29 (by first | assumption | decide) ?_
          refine lv_isub hx hb dX2_wayBetween_30 ?_
          refine va_mabs hx hb (hml.trans hl.1.symm) hown wd1 wd2 wd3 wd4 (Nat.le_of_ble_eq_true rfl) (Nat.le_of_ble_eq_true rfl) (Nat.zero_le _) (Nat.zero_le _) dX2_wayBetween_31 ?_
          refine lv_istore_n (lv' := [(2, .int _), (0, .int _), (1, .int _)]) hx hb dX2_wayBetween_34 rfl hl (by decide) rfl (fun ls hl => ?_)
          refine lv_iconst (v := 4) hx hb dX2_wayBetween_35 (by decide) ?_
          refine lv_iload_n hx hb dX2_wayBetween_36 rfl (lv_at hl 0 rfl) ?_
          refine lv_imul hx hb dX2_wayBetween_37 ?_
          refine va_gets hx hb hX.2.1.1 hS hown wd5 (fun _ h9 => h9) dX2_wayBetween_38 ?_
          refine lv_iload_n hx hb dX2_wayBetween_41 rfl (lv_at hl 1 rfl) ?_
          refine lv_bipush (v := 6) hx hb dX2_wayBetween_42 (by decide) ?_
          refine lv_irem hx hb dX2_wayBetween_44 (by first | assumption | decide) ?_
          refine va_ti hx hb hX.2.1.2 hS (rem6_in c1) rfl dX2_wayBetween_45 ?_
          refine lv_iadd hx hb dX2_wayBetween_46 ?_
          refine va_gets hx hb hX.2.1.1 hS hown wd5 (fun _ h9 => h9) dX2_wayBetween_47 ?_
          refine lv_iload_n hx hb dX2_wayBetween_50 rfl (lv_at hl 2 rfl) ?_
          refine lv_bipush (v := 6) hx hb dX2_wayBetween_51 (by decide) ?_
          refine lv_irem hx hb dX2_wayBetween_53 (by first | assumption | decide) ?_
          refine va_ti hx hb hX.2.1.2 hS (rem6_in c11) rfl dX2_wayBetween_54 ?_
          refine lv_iadd hx hb dX2_wayBetween_55 ?_
          exact ro_ret hx hb hr (Eq.trans (if_neg c1) (Eq.trans (if_neg c7) (Eq.trans (if_neg c11) (Eq.trans (if_pos c17) (rfl))))) dX2_wayBetween_56 hlocks
        · refine lv_iconst (v := 0) hx hb dX2_wayBetween_20 (by decide) ?_
          exact ro_ret hx hb hr (Eq.trans (if_neg c1) (Eq.trans (if_neg c7) (Eq.trans (if_neg c11) (Eq.trans (if_neg c17) (rfl))))) dX2_wayBetween_21 hlocks

def lp4_X4_weeklyWalk (N : Nat → Int32) (G : Nat → Int32) (x1 : Int32) : Nat → Int32 → Int32 → Int32
  | 0, v2, v3 => 0
  | n + 1, v2, v3 => if (N 0) ≤ v3 then (v2) else (if (sp_X4_isPlaced N G v3) = 0 then (lp4_X4_weeklyWalk N G x1 n v2 (v3 + (1 : Int32)) ) else (lp4_X4_weeklyWalk N G x1 n (v2 + ((sp_X4_demandOf N G v3 x1) * (sp_X2_walkTo (N (22 + 11 * (ix v3)))))) (v3 + (1 : Int32)) ))
theorem lp4_X4_weeklyWalk_s (N : Nat → Int32) (G : Nat → Int32) (x1 : Int32) (n : Nat) (v2 : Int32) (v3 : Int32)  : lp4_X4_weeklyWalk N G x1 (n + 1) v2 v3 = if (N 0) ≤ v3 then (v2) else (if (sp_X4_isPlaced N G v3) = 0 then (lp4_X4_weeklyWalk N G x1 n v2 (v3 + (1 : Int32)) ) else (lp4_X4_weeklyWalk N G x1 n (v2 + ((sp_X4_demandOf N G v3 x1) * (sp_X2_walkTo (N (22 + 11 * (ix v3)))))) (v3 + (1 : Int32)) )) := rfl
def sp_X4_weeklyWalk (N : Nat → Int32) (G : Nat → Int32) (x1 : Int32) : Int32 :=
  lp4_X4_weeklyWalk N G x1 21 (0 : Int32) (0 : Int32) 
set_option maxHeartbeats 4000000 in
set_option maxRecDepth 100000 in
theorem c_X4_weeklyWalk (l : Launch) (D : va_G) (cI cC cW : ClassId) (t : Nat → Nat) (a : Nat → Nat) (N : Nat → Int32) (G : Nat → Int32) (x1 : Int32) (hsf : sfN N) (h1 : vp_in x1 4) : Met l yX4_weeklyWalk wsX4_weeklyWalk ({ frames := 2, cells := 0, slots := 0, locals := 41 }) (va_Pc [.ref (a 0), .int x1] (roP D (tyL cI cC cW) (wg cI a N G) t)) (vp_Si (fun r => r = sp_X4_weeklyWalk N G x1)) 0 0 (fun _ => False) := by
  refine Met.ofW (cc := cX4_weeklyWalk) (maxL := 4) (ret := (some .int)) (by decide) rfl ?_
  intro p e s m args below meth c s₁ B hml hv
  obtain ⟨rfl, hP, hK, hX⟩ := hv
  have hx := B.exec
  have hb := B.bytes
  have hr := B.returns
  have hts := atoms_spec (ws := wsX4_weeklyWalk) B.pre
  have hown : s.vm.findClass RX4 = some m.cls := findClass_of_methodNamed B.named
  have hlocks := B.notSynchronized
  have hS : va_S (fun _ => False) s.heap s.heap [] := va_S.rf
  have wd1 : (Cond.fieldLink RX4 59 "PickSlots$Warehouse" "goods" "I").before [.ref (a 0), .int x1].toArray s = true := hts _ (List.mem_of_getElem? (i := 1) rfl)
  have wd2 : (Cond.fieldLink RX4 21 "PickSlots$Warehouse" "slotOfGood" "[I").before [.ref (a 0), .int x1].toArray s = true := hts _ (List.mem_of_getElem? (i := 2) rfl)
  have hi4 : ∀ w ∈ wsX40, w ∈ wsX4_weeklyWalk := fun w h => List.mem_cons_of_mem _ (List.mem_append_right _ (h))
  have CF : CallFix p m c cX4_weeklyWalk 4 s [.ref (a 0), .int x1].toArray wsX4_weeklyWalk RX4 := ⟨hx, hb, hml, hown, hts⟩
  have hl := lv_entry ([.ref (a 0), .int x1]) (n := 4) (Nat.le_of_ble_eq_true rfl)
  rw [lg_entry_eq]
  generalize (lg_sl ([.ref (a 0), .int x1]) ++ List.replicate (4 - (lg_sl ([.ref (a 0), .int x1])).length) Slot.unset).toArray = ls at hl ⊢
  have hl : lv_has ls 4 [(0, .ref (a 0)), (1, .int x1)] := hl
  refine lv_iconst (v := 0) hx hb dX4_weeklyWalk_0 (by decide) ?_
  refine lv_istore_n (lv' := [(2, .int _), (0, .ref _), (1, .int _)]) hx hb dX4_weeklyWalk_1 rfl hl (by decide) rfl (fun ls hl => ?_)
  refine lv_iconst (v := 0) hx hb dX4_weeklyWalk_2 (by decide) ?_
  refine lv_istore_n (lv' := [(3, .int _), (2, .int _), (0, .ref _), (1, .int _)]) hx hb dX4_weeklyWalk_3 rfl hl (by decide) rfl (fun ls hl => ?_)
  have L4 : ∀ (n4 : Nat) (v2 v3 : Int32), (0 ≤ v3.toInt) → (v3.toInt ≤ (N 0).toInt) → ((N 0).toInt - v3.toInt < (n4 : Int)) → sp_X4_weeklyWalk N G x1 = lp4_X4_weeklyWalk N G x1 (n4) v2 v3  → ∀ (ls : Array Slot), lv_has ls 4 [(2, .int v2), (3, .int v3), (0, .ref (a 0)), (1, .int x1)] → W p l e (headSpec wsX4_weeklyWalk ({ frames := 2, cells := 0, slots := 0, locals := 41 } : Room)).room s m [.ref (a 0), .int x1].toArray below meth c s.heap [] 0 0 (MQ below (vp_Si (fun r => r = sp_X4_weeklyWalk N G x1)) [.ref (a 0), .int x1].toArray s 0 0 (fun _ => False)) (F0 m 4 ls []) := by
    intro n4
    induction n4 with
    | zero => intro v2 v3  i1 i2 im; exfalso; omega
    | succ n4 ih4 =>
      intro v2 v3  i1 i2 im hsp4 ls hl
      refine lv_iload_n hx hb dX4_weeklyWalk_4 rfl (lv_at hl 1 rfl) ?_
      refine lv_aload_n hx hb dX4_weeklyWalk_5 rfl (lv_at hl 2 rfl) ?_
      refine va_get (D := D) (ci := 3) (C := RX4) (T := TX4) (N := 13) hx hb hts hi4 hown hK hP 0 wg_0 rfl 11 (by decide) wd1 (fun _ h9 => h9) rfl dX4_weeklyWalk_6 ?_
      refine lv_icmp_ge (tgt := 45) hx hb dX4_weeklyWalk_9 (by decide) (fun c9 => ?_) (fun c9 => ?_)
      · refine lv_iload_n hx hb dX4_weeklyWalk_45 rfl (lv_at hl 0 rfl) ?_
        exact ro_ret hx hb hr (Eq.trans hsp4 (Eq.trans (lp4_X4_weeklyWalk_s _ _ _ _ _ _) (Eq.trans (if_pos c9) (rfl)))) dX4_weeklyWalk_46 hlocks
      · have hv : vp_in v3 20 := cnin20 hsf i1 c9
        refine lv_aload_n hx hb dX4_weeklyWalk_12 rfl (lv_at hl 2 rfl) ?_
        refine lv_iload_n hx hb dX4_weeklyWalk_13 rfl (lv_at hl 1 rfl) ?_
        refine roV CF (c_X4_isPlaced l D cI cC cW t _ _ _ _ (by first | (with_reducible first | assumption | exact g20 (by assumption) (by assumption) | exact sl60 (by assumption) | exact s4 (by assumption)) | (unfold vp_in; decide))) (cwV 1 hts gX4_weeklyWalk_X4_isPlaced rfl rfl rfl (by decide +kernel) ⟨Nat.le_of_ble_eq_true rfl, Nat.le_of_ble_eq_true rfl⟩) hP hK hX hS 0 3 wg_0 rfl rfl hl.1 rfl (Nat.le_of_ble_eq_true rfl) dX4_weeklyWalk_14 ⟨Nat.zero_le _, Nat.zero_le _⟩ ?_
        refine lv_if_eq (tgt := 39) hx hb dX4_weeklyWalk_17 (by decide) (fun c17 => ?_) (fun c17 => ?_)
        · refine lv_iinc (v := _ + (1 : Int32)) (lv' := [(3, .int _), (2, .int _), (0, .ref _), (1, .int _)]) hx hb dX4_weeklyWalk_39 hl (k := 1) rfl rfl (by decide) rfl (fun ls hl => ?_)
          refine lv_goto (tgt := 4) hx hb dX4_weeklyWalk_42 (by decide) ?_
          exact ih4 _ _ (cs1 i1 c9) (cs2 c9) (csm c9 im) (Eq.trans hsp4 (Eq.trans (lp4_X4_weeklyWalk_s _ _ _ _ _ _) (Eq.trans (if_neg c9) (Eq.trans (if_pos c17) (rfl))))) _ (lv_sub hl [1, 0, 2, 3] rfl)
        · refine lv_iload_n hx hb dX4_weeklyWalk_20 rfl (lv_at hl 0 rfl) ?_
          refine lv_aload_n hx hb dX4_weeklyWalk_21 rfl (lv_at hl 2 rfl) ?_
          refine lv_iload_n hx hb dX4_weeklyWalk_22 rfl (lv_at hl 1 rfl) ?_
          refine lv_iload_n hx hb dX4_weeklyWalk_23 rfl (lv_at hl 3 rfl) ?_
          refine roV CF (c_X4_demandOf l D cI cC cW t _ _ _ _ _ (by first | (with_reducible first | assumption | exact g20 (by assumption) (by assumption) | exact sl60 (by assumption) | exact s4 (by assumption)) | (unfold vp_in; decide)) (by first | (with_reducible first | assumption | exact g20 (by assumption) (by assumption) | exact sl60 (by assumption) | exact s4 (by assumption)) | (unfold vp_in; decide))) (cwV 2 hts gX4_weeklyWalk_X4_demandOf rfl rfl rfl (by decide +kernel) ⟨Nat.le_of_ble_eq_true rfl, Nat.le_of_ble_eq_true rfl⟩) hP hK hX hS 0 3 wg_0 rfl rfl hl.1 rfl (Nat.le_of_ble_eq_true rfl) dX4_weeklyWalk_24 ⟨Nat.zero_le _, Nat.zero_le _⟩ ?_
          refine lv_aload_n hx hb dX4_weeklyWalk_27 rfl (lv_at hl 2 rfl) ?_
          refine va_get (D := D) (ci := 3) (C := RX4) (T := TX4) (N := 13) hx hb hts hi4 hown hK hP 0 wg_0 rfl 3 (by decide) wd2 (fun _ h9 => h9) rfl dX4_weeklyWalk_28 ?_
          refine lv_iload_n hx hb dX4_weeklyWalk_31 rfl (lv_at hl 1 rfl) ?_
          refine va_iald hx hb hK hP 4 0 wg_4 rfl (by first | (with_reducible first | assumption | exact g20 (by assumption) (by assumption) | exact sl60 (by assumption) | exact s4 (by assumption)) | (unfold vp_in; decide)) dX4_weeklyWalk_32 ?_
          refine roS CF (c_X2_walkTo l D cI cC cW t _ ) (va_cwS 1 hts gX4_weeklyWalk_X2_walkTo rfl rfl rfl (by decide +kernel) ⟨Nat.le_of_ble_eq_true rfl, Nat.le_of_ble_eq_true rfl⟩) vP_nil hK hX hS rfl hl.1 rfl (Nat.le_of_ble_eq_true rfl) dX4_weeklyWalk_33 ⟨Nat.zero_le _, Nat.zero_le _⟩ ?_
          refine lv_imul hx hb dX4_weeklyWalk_36 ?_
          refine lv_iadd hx hb dX4_weeklyWalk_37 ?_
          refine lv_istore_n (lv' := [(2, .int _), (3, .int _), (0, .ref _), (1, .int _)]) hx hb dX4_weeklyWalk_38 rfl hl (by decide) rfl (fun ls hl => ?_)
          refine lv_iinc (v := _ + (1 : Int32)) (lv' := [(3, .int _), (2, .int _), (0, .ref _), (1, .int _)]) hx hb dX4_weeklyWalk_39 hl (k := 1) rfl rfl (by decide) rfl (fun ls hl => ?_)
          refine lv_goto (tgt := 4) hx hb dX4_weeklyWalk_42 (by decide) ?_
          exact ih4 _ _ (cs1 i1 c9) (cs2 c9) (csm c9 im) (Eq.trans hsp4 (Eq.trans (lp4_X4_weeklyWalk_s _ _ _ _ _ _) (Eq.trans (if_neg c9) (Eq.trans (if_neg c17) (rfl))))) _ (lv_sub hl [1, 0, 2, 3] rfl)
  exact L4 21 _ _ (by decide) (cn2 hsf) (cnm hsf) (rfl) _ (lv_sub hl [1, 0, 2, 3] rfl)

def lp4_X4_placedGoods (N : Nat → Int32) (G : Nat → Int32) (x1 : Int32) : Nat → Int32 → Int32 → Int32
  | 0, v2, v3 => 0
  | n + 1, v2, v3 => if (N 0) ≤ v3 then (v2) else (if (sp_X4_isPlaced N G v3) = 0 then (lp4_X4_placedGoods N G x1 n v2 (v3 + (1 : Int32)) ) else (if x1 = 0 then (lp4_X4_placedGoods N G x1 n (v2 + (1 : Int32)) (v3 + (1 : Int32)) ) else (if (N (23 + 11 * (ix v3))) = 0 then (lp4_X4_placedGoods N G x1 n (v2 + (1 : Int32)) (v3 + (1 : Int32)) ) else (lp4_X4_placedGoods N G x1 n v2 (v3 + (1 : Int32)) ))))
theorem lp4_X4_placedGoods_s (N : Nat → Int32) (G : Nat → Int32) (x1 : Int32) (n : Nat) (v2 : Int32) (v3 : Int32)  : lp4_X4_placedGoods N G x1 (n + 1) v2 v3 = if (N 0) ≤ v3 then (v2) else (if (sp_X4_isPlaced N G v3) = 0 then (lp4_X4_placedGoods N G x1 n v2 (v3 + (1 : Int32)) ) else (if x1 = 0 then (lp4_X4_placedGoods N G x1 n (v2 + (1 : Int32)) (v3 + (1 : Int32)) ) else (if (N (23 + 11 * (ix v3))) = 0 then (lp4_X4_placedGoods N G x1 n (v2 + (1 : Int32)) (v3 + (1 : Int32)) ) else (lp4_X4_placedGoods N G x1 n v2 (v3 + (1 : Int32)) )))) := rfl
def sp_X4_placedGoods (N : Nat → Int32) (G : Nat → Int32) (x1 : Int32) : Int32 :=
  lp4_X4_placedGoods N G x1 21 (0 : Int32) (0 : Int32) 
set_option maxHeartbeats 4000000 in
set_option maxRecDepth 100000 in
theorem c_X4_placedGoods (l : Launch) (D : va_G) (cI cC cW : ClassId) (t : Nat → Nat) (a : Nat → Nat) (N : Nat → Int32) (G : Nat → Int32) (x1 : Int32) (hsf : sfN N) : Met l yX4_placedGoods wsX4_placedGoods ({ frames := 2, cells := 0, slots := 0, locals := 41 }) (va_Pc [.ref (a 0), .int x1] (roP D (tyL cI cC cW) (wg cI a N G) t)) (vp_Si (fun r => r = sp_X4_placedGoods N G x1)) 0 0 (fun _ => False) := by
  refine Met.ofW (cc := cX4_placedGoods) (maxL := 4) (ret := (some .int)) (by decide) rfl ?_
  intro p e s m args below meth c s₁ B hml hv
  obtain ⟨rfl, hP, hK, hX⟩ := hv
  have hx := B.exec
  have hb := B.bytes
  have hr := B.returns
  have hts := atoms_spec (ws := wsX4_placedGoods) B.pre
  have hown : s.vm.findClass RX4 = some m.cls := findClass_of_methodNamed B.named
  have hlocks := B.notSynchronized
  have hS : va_S (fun _ => False) s.heap s.heap [] := va_S.rf
  have wd1 : (Cond.fieldLink RX4 59 "PickSlots$Warehouse" "goods" "I").before [.ref (a 0), .int x1].toArray s = true := hts _ (List.mem_of_getElem? (i := 1) rfl)
  have wd2 : (Cond.fieldLink RX4 24 "PickSlots$Warehouse" "unitsInSlot" "[I").before [.ref (a 0), .int x1].toArray s = true := hts _ (List.mem_of_getElem? (i := 2) rfl)
  have hi4 : ∀ w ∈ wsX40, w ∈ wsX4_placedGoods := fun w h => List.mem_cons_of_mem _ (List.mem_append_right _ (h))
  have CF : CallFix p m c cX4_placedGoods 4 s [.ref (a 0), .int x1].toArray wsX4_placedGoods RX4 := ⟨hx, hb, hml, hown, hts⟩
  have hl := lv_entry ([.ref (a 0), .int x1]) (n := 4) (Nat.le_of_ble_eq_true rfl)
  rw [lg_entry_eq]
  generalize (lg_sl ([.ref (a 0), .int x1]) ++ List.replicate (4 - (lg_sl ([.ref (a 0), .int x1])).length) Slot.unset).toArray = ls at hl ⊢
  have hl : lv_has ls 4 [(0, .ref (a 0)), (1, .int x1)] := hl
  refine lv_iconst (v := 0) hx hb dX4_placedGoods_0 (by decide) ?_
  refine lv_istore_n (lv' := [(2, .int _), (0, .ref _), (1, .int _)]) hx hb dX4_placedGoods_1 rfl hl (by decide) rfl (fun ls hl => ?_)
  refine lv_iconst (v := 0) hx hb dX4_placedGoods_2 (by decide) ?_
  refine lv_istore_n (lv' := [(3, .int _), (2, .int _), (0, .ref _), (1, .int _)]) hx hb dX4_placedGoods_3 rfl hl (by decide) rfl (fun ls hl => ?_)
  have L4 : ∀ (n4 : Nat) (v2 v3 : Int32), (0 ≤ v3.toInt) → (v3.toInt ≤ (N 0).toInt) → ((N 0).toInt - v3.toInt < (n4 : Int)) → sp_X4_placedGoods N G x1 = lp4_X4_placedGoods N G x1 (n4) v2 v3  → ∀ (ls : Array Slot), lv_has ls 4 [(2, .int v2), (3, .int v3), (0, .ref (a 0)), (1, .int x1)] → W p l e (headSpec wsX4_placedGoods ({ frames := 2, cells := 0, slots := 0, locals := 41 } : Room)).room s m [.ref (a 0), .int x1].toArray below meth c s.heap [] 0 0 (MQ below (vp_Si (fun r => r = sp_X4_placedGoods N G x1)) [.ref (a 0), .int x1].toArray s 0 0 (fun _ => False)) (F0 m 4 ls []) := by
    intro n4
    induction n4 with
    | zero => intro v2 v3  i1 i2 im; exfalso; omega
    | succ n4 ih4 =>
      intro v2 v3  i1 i2 im hsp4 ls hl
      refine lv_iload_n hx hb dX4_placedGoods_4 rfl (lv_at hl 1 rfl) ?_
      refine lv_aload_n hx hb dX4_placedGoods_5 rfl (lv_at hl 2 rfl) ?_
      refine va_get (D := D) (ci := 3) (C := RX4) (T := TX4) (N := 13) hx hb hts hi4 hown hK hP 0 wg_0 rfl 11 (by decide) wd1 (fun _ h9 => h9) rfl dX4_placedGoods_6 ?_
      refine lv_icmp_ge (tgt := 42) hx hb dX4_placedGoods_9 (by decide) (fun c9 => ?_) (fun c9 => ?_)
      · refine lv_iload_n hx hb dX4_placedGoods_42 rfl (lv_at hl 0 rfl) ?_
        exact ro_ret hx hb hr (Eq.trans hsp4 (Eq.trans (lp4_X4_placedGoods_s _ _ _ _ _ _) (Eq.trans (if_pos c9) (rfl)))) dX4_placedGoods_43 hlocks
      · have hv : vp_in v3 20 := cnin20 hsf i1 c9
        refine lv_aload_n hx hb dX4_placedGoods_12 rfl (lv_at hl 2 rfl) ?_
        refine lv_iload_n hx hb dX4_placedGoods_13 rfl (lv_at hl 1 rfl) ?_
        refine roV CF (c_X4_isPlaced l D cI cC cW t _ _ _ _ (by first | (with_reducible first | assumption | exact g20 (by assumption) (by assumption) | exact sl60 (by assumption) | exact s4 (by assumption)) | (unfold vp_in; decide))) (cwV 1 hts gX4_placedGoods_X4_isPlaced rfl rfl rfl (by decide +kernel) ⟨Nat.le_of_ble_eq_true rfl, Nat.le_of_ble_eq_true rfl⟩) hP hK hX hS 0 3 wg_0 rfl rfl hl.1 rfl (Nat.le_of_ble_eq_true rfl) dX4_placedGoods_14 ⟨Nat.zero_le _, Nat.zero_le _⟩ ?_
        refine lv_if_eq (tgt := 36) hx hb dX4_placedGoods_17 (by decide) (fun c17 => ?_) (fun c17 => ?_)
        · refine lv_iinc (v := _ + (1 : Int32)) (lv' := [(3, .int _), (2, .int _), (0, .ref _), (1, .int _)]) hx hb dX4_placedGoods_36 hl (k := 1) rfl rfl (by decide) rfl (fun ls hl => ?_)
          refine lv_goto (tgt := 4) hx hb dX4_placedGoods_39 (by decide) ?_
          exact ih4 _ _ (cs1 i1 c9) (cs2 c9) (csm c9 im) (Eq.trans hsp4 (Eq.trans (lp4_X4_placedGoods_s _ _ _ _ _ _) (Eq.trans (if_neg c9) (Eq.trans (if_pos c17) (rfl))))) _ (lv_sub hl [1, 0, 2, 3] rfl)
        · refine lv_iload_n hx hb dX4_placedGoods_20 rfl (lv_at hl 3 rfl) ?_
          refine lv_if_eq (tgt := 33) hx hb dX4_placedGoods_21 (by decide) (fun c21 => ?_) (fun c21 => ?_)
          · refine lv_iinc (v := _ + (1 : Int32)) (lv' := [(2, .int _), (3, .int _), (0, .ref _), (1, .int _)]) hx hb dX4_placedGoods_33 hl (k := 0) rfl rfl (by decide) rfl (fun ls hl => ?_)
            refine lv_iinc (v := _ + (1 : Int32)) (lv' := [(3, .int _), (2, .int _), (0, .ref _), (1, .int _)]) hx hb dX4_placedGoods_36 hl (k := 1) rfl rfl (by decide) rfl (fun ls hl => ?_)
            refine lv_goto (tgt := 4) hx hb dX4_placedGoods_39 (by decide) ?_
            exact ih4 _ _ (cs1 i1 c9) (cs2 c9) (csm c9 im) (Eq.trans hsp4 (Eq.trans (lp4_X4_placedGoods_s _ _ _ _ _ _) (Eq.trans (if_neg c9) (Eq.trans (if_neg c17) (Eq.trans (if_pos c21) (rfl)))))) _ (lv_sub hl [1, 0, 2, 3] rfl)
          · refine lv_aload_n hx hb dX4_placedGoods_24 rfl (lv_at hl 2 rfl) ?_
            refine va_get (D := D) (ci := 3) (C := RX4) (T := TX4) (N := 13) hx hb hts hi4 hown hK hP 0 wg_0 rfl 4 (by decide) wd2 (fun _ h9 => h9) rfl dX4_placedGoods_25 ?_
            refine lv_iload_n hx hb dX4_placedGoods_28 rfl (lv_at hl 1 rfl) ?_
            refine va_iald hx hb hK hP 5 0 wg_5 rfl (by first | (with_reducible first | assumption | exact g20 (by assumption) (by assumption) | exact sl60 (by assumption) | exact s4 (by assumption)) | (unfold vp_in; decide)) dX4_placedGoods_29 ?_
            refine lv_if_ne (tgt := 36) hx hb dX4_placedGoods_30 (by decide) (fun c30 => ?_) (fun c30 => ?_)
            · refine lv_iinc (v := _ + (1 : Int32)) (lv' := [(3, .int _), (2, .int _), (0, .ref _), (1, .int _)]) hx hb dX4_placedGoods_36 hl (k := 1) rfl rfl (by decide) rfl (fun ls hl => ?_)
              refine lv_goto (tgt := 4) hx hb dX4_placedGoods_39 (by decide) ?_
              exact ih4 _ _ (cs1 i1 c9) (cs2 c9) (csm c9 im) (Eq.trans hsp4 (Eq.trans (lp4_X4_placedGoods_s _ _ _ _ _ _) (Eq.trans (if_neg c9) (Eq.trans (if_neg c17) (Eq.trans (if_neg c21) (Eq.trans (if_neg c30) (rfl))))))) _ (lv_sub hl [1, 0, 2, 3] rfl)
            · refine lv_iinc (v := _ + (1 : Int32)) (lv' := [(2, .int _), (3, .int _), (0, .ref _), (1, .int _)]) hx hb dX4_placedGoods_33 hl (k := 0) rfl rfl (by decide) rfl (fun ls hl => ?_)
              refine lv_iinc (v := _ + (1 : Int32)) (lv' := [(3, .int _), (2, .int _), (0, .ref _), (1, .int _)]) hx hb dX4_placedGoods_36 hl (k := 1) rfl rfl (by decide) rfl (fun ls hl => ?_)
              refine lv_goto (tgt := 4) hx hb dX4_placedGoods_39 (by decide) ?_
              exact ih4 _ _ (cs1 i1 c9) (cs2 c9) (csm c9 im) (Eq.trans hsp4 (Eq.trans (lp4_X4_placedGoods_s _ _ _ _ _ _) (Eq.trans (if_neg c9) (Eq.trans (if_neg c17) (Eq.trans (if_neg c21) (Eq.trans (if_pos c30) (rfl))))))) _ (lv_sub hl [1, 0, 2, 3] rfl)
  exact L4 21 _ _ (by decide) (cn2 hsf) (cnm hsf) (rfl) _ (lv_sub hl [1, 0, 2, 3] rfl)

def lp4_X4_sumOf5 (N : Nat → Int32) (G : Nat → Int32) : Nat → Int32 → Int32 → Int32
  | 0, v2, v3 => 0
  | n + 1, v2, v3 => if (N 0) ≤ v3 then (v2) else (if (20 : Int32) ≤ v3 then (v2) else (lp4_X4_sumOf5 N G n (v2 + (N (23 + 11 * (ix v3)))) (v3 + (1 : Int32)) ))
theorem lp4_X4_sumOf5_s (N : Nat → Int32) (G : Nat → Int32) (n : Nat) (v2 : Int32) (v3 : Int32)  : lp4_X4_sumOf5 N G (n + 1) v2 v3 = if (N 0) ≤ v3 then (v2) else (if (20 : Int32) ≤ v3 then (v2) else (lp4_X4_sumOf5 N G n (v2 + (N (23 + 11 * (ix v3)))) (v3 + (1 : Int32)) )) := rfl
def sp_X4_sumOf5 (N : Nat → Int32) (G : Nat → Int32) : Int32 :=
  lp4_X4_sumOf5 N G 21 (0 : Int32) (0 : Int32) 
set_option maxHeartbeats 4000000 in
set_option maxRecDepth 100000 in
theorem c_X4_sumOf5 (l : Launch) (D : va_G) (cI cC cW : ClassId) (t : Nat → Nat) (a : Nat → Nat) (N : Nat → Int32) (G : Nat → Int32) (hsf : sfN N) : Met l yX4_sumOf wsX4_sumOf ({ frames := 0, cells := 0, slots := 0, locals := 0 }) (va_Pc [.ref (a 0), .ref (a 5)] (roP D (tyL cI cC cW) (wg cI a N G) t)) (vp_Si (fun r => r = sp_X4_sumOf5 N G)) 0 0 (fun _ => False) := by
  refine Met.ofW (cc := cX4_sumOf) (maxL := 4) (ret := (some .int)) (by decide) rfl ?_
  intro p e s m args below meth c s₁ B hml hv
  obtain ⟨rfl, hP, hK, hX⟩ := hv
  have hx := B.exec
  have hb := B.bytes
  have hr := B.returns
  have hts := atoms_spec (ws := wsX4_sumOf) B.pre
  have hown : s.vm.findClass RX4 = some m.cls := findClass_of_methodNamed B.named
  have hlocks := B.notSynchronized
  have hS : va_S (fun _ => False) s.heap s.heap [] := va_S.rf
  have wd1 : (Cond.fieldLink RX4 59 "PickSlots$Warehouse" "goods" "I").before [.ref (a 0), .ref (a 5)].toArray s = true := hts _ (List.mem_of_getElem? (i := 1) rfl)
  have hi4 : ∀ w ∈ wsX40, w ∈ wsX4_sumOf := fun w h => List.mem_cons_of_mem _ (List.mem_append_right _ (h))
  have hl := lv_entry ([.ref (a 0), .ref (a 5)]) (n := 4) (Nat.le_of_ble_eq_true rfl)
  rw [lg_entry_eq]
  generalize (lg_sl ([.ref (a 0), .ref (a 5)]) ++ List.replicate (4 - (lg_sl ([.ref (a 0), .ref (a 5)])).length) Slot.unset).toArray = ls at hl ⊢
  have hl : lv_has ls 4 [(0, .ref (a 0)), (1, .ref (a 5))] := hl
  refine lv_iconst (v := 0) hx hb dX4_sumOf_0 (by decide) ?_
  refine lv_istore_n (lv' := [(2, .int _), (0, .ref _), (1, .ref _)]) hx hb dX4_sumOf_1 rfl hl (by decide) rfl (fun ls hl => ?_)
  refine lv_iconst (v := 0) hx hb dX4_sumOf_2 (by decide) ?_
  refine lv_istore_n (lv' := [(3, .int _), (2, .int _), (0, .ref _), (1, .ref _)]) hx hb dX4_sumOf_3 rfl hl (by decide) rfl (fun ls hl => ?_)
  have L4 : ∀ (n4 : Nat) (v2 v3 : Int32), (0 ≤ v3.toInt) → (v3.toInt ≤ (N 0).toInt) → ((N 0).toInt - v3.toInt < (n4 : Int)) → sp_X4_sumOf5 N G = lp4_X4_sumOf5 N G (n4) v2 v3  → ∀ (ls : Array Slot), lv_has ls 4 [(2, .int v2), (3, .int v3), (0, .ref (a 0)), (1, .ref (a 5))] → W p l e (headSpec wsX4_sumOf ({ frames := 0, cells := 0, slots := 0, locals := 0 } : Room)).room s m [.ref (a 0), .ref (a 5)].toArray below meth c s.heap [] 0 0 (MQ below (vp_Si (fun r => r = sp_X4_sumOf5 N G)) [.ref (a 0), .ref (a 5)].toArray s 0 0 (fun _ => False)) (F0 m 4 ls []) := by
    intro n4
    induction n4 with
    | zero => intro v2 v3  i1 i2 im; exfalso; omega
    | succ n4 ih4 =>
      intro v2 v3  i1 i2 im hsp4 ls hl
      refine lv_iload_n hx hb dX4_sumOf_4 rfl (lv_at hl 1 rfl) ?_
      refine lv_aload_n hx hb dX4_sumOf_5 rfl (lv_at hl 2 rfl) ?_
      refine va_get (D := D) (ci := 3) (C := RX4) (T := TX4) (N := 13) hx hb hts hi4 hown hK hP 0 wg_0 rfl 11 (by decide) wd1 (fun _ h9 => h9) rfl dX4_sumOf_6 ?_
      refine lv_icmp_ge (tgt := 30) hx hb dX4_sumOf_9 (by decide) (fun c9 => ?_) (fun c9 => ?_)
      · refine lv_iload_n hx hb dX4_sumOf_30 rfl (lv_at hl 0 rfl) ?_
        exact ro_ret hx hb hr (Eq.trans hsp4 (Eq.trans (lp4_X4_sumOf5_s _ _ _ _ _) (Eq.trans (if_pos c9) (rfl)))) dX4_sumOf_31 hlocks
      · have hv : vp_in v3 20 := cnin20 hsf i1 c9
        refine lv_iload_n hx hb dX4_sumOf_12 rfl (lv_at hl 1 rfl) ?_
        refine lv_aload_n hx hb dX4_sumOf_13 rfl (lv_at hl 3 rfl) ?_
        refine va_alen hx hb hK hP 5 0 wg_5 rfl (v := 20) rfl dX4_sumOf_14 ?_
        refine lv_icmp_ge (tgt := 30) hx hb dX4_sumOf_15 (by decide) (fun c15 => ?_) (fun c15 => ?_)
        · refine lv_iload_n hx hb dX4_sumOf_30 rfl (lv_at hl 0 rfl) ?_
          exact ro_ret hx hb hr (Eq.trans hsp4 (Eq.trans (lp4_X4_sumOf5_s _ _ _ _ _) (Eq.trans (if_neg c9) (Eq.trans (if_pos c15) (rfl))))) dX4_sumOf_31 hlocks
        · refine lv_iload_n hx hb dX4_sumOf_18 rfl (lv_at hl 0 rfl) ?_
          refine lv_aload_n hx hb dX4_sumOf_19 rfl (lv_at hl 3 rfl) ?_
          refine lv_iload_n hx hb dX4_sumOf_20 rfl (lv_at hl 1 rfl) ?_
          refine va_iald hx hb hK hP 5 0 wg_5 rfl (by first | (with_reducible first | assumption | exact g20 (by assumption) (by assumption) | exact sl60 (by assumption) | exact s4 (by assumption)) | (unfold vp_in; decide)) dX4_sumOf_21 ?_
          refine lv_iadd hx hb dX4_sumOf_22 ?_
          refine lv_istore_n (lv' := [(2, .int _), (3, .int _), (0, .ref _), (1, .ref _)]) hx hb dX4_sumOf_23 rfl hl (by decide) rfl (fun ls hl => ?_)
          refine lv_iinc (v := _ + (1 : Int32)) (lv' := [(3, .int _), (2, .int _), (0, .ref _), (1, .ref _)]) hx hb dX4_sumOf_24 hl (k := 1) rfl rfl (by decide) rfl (fun ls hl => ?_)
          refine lv_goto (tgt := 4) hx hb dX4_sumOf_27 (by decide) ?_
          exact ih4 _ _ (cs1 i1 c9) (cs2 c9) (csm c9 im) (Eq.trans hsp4 (Eq.trans (lp4_X4_sumOf5_s _ _ _ _ _) (Eq.trans (if_neg c9) (Eq.trans (if_neg c15) (rfl))))) _ (lv_sub hl [1, 0, 2, 3] rfl)
  exact L4 21 _ _ (by decide) (cn2 hsf) (cnm hsf) (rfl) _ (lv_sub hl [1, 0, 2, 3] rfl)

def lp4_X4_sumOf6 (N : Nat → Int32) (G : Nat → Int32) : Nat → Int32 → Int32 → Int32
  | 0, v2, v3 => 0
  | n + 1, v2, v3 => if (N 0) ≤ v3 then (v2) else (if (20 : Int32) ≤ v3 then (v2) else (lp4_X4_sumOf6 N G n (v2 + (N (24 + 11 * (ix v3)))) (v3 + (1 : Int32)) ))
theorem lp4_X4_sumOf6_s (N : Nat → Int32) (G : Nat → Int32) (n : Nat) (v2 : Int32) (v3 : Int32)  : lp4_X4_sumOf6 N G (n + 1) v2 v3 = if (N 0) ≤ v3 then (v2) else (if (20 : Int32) ≤ v3 then (v2) else (lp4_X4_sumOf6 N G n (v2 + (N (24 + 11 * (ix v3)))) (v3 + (1 : Int32)) )) := rfl
def sp_X4_sumOf6 (N : Nat → Int32) (G : Nat → Int32) : Int32 :=
  lp4_X4_sumOf6 N G 21 (0 : Int32) (0 : Int32) 
set_option maxHeartbeats 4000000 in
set_option maxRecDepth 100000 in
theorem c_X4_sumOf6 (l : Launch) (D : va_G) (cI cC cW : ClassId) (t : Nat → Nat) (a : Nat → Nat) (N : Nat → Int32) (G : Nat → Int32) (hsf : sfN N) : Met l yX4_sumOf wsX4_sumOf ({ frames := 0, cells := 0, slots := 0, locals := 0 }) (va_Pc [.ref (a 0), .ref (a 6)] (roP D (tyL cI cC cW) (wg cI a N G) t)) (vp_Si (fun r => r = sp_X4_sumOf6 N G)) 0 0 (fun _ => False) := by
  refine Met.ofW (cc := cX4_sumOf) (maxL := 4) (ret := (some .int)) (by decide) rfl ?_
  intro p e s m args below meth c s₁ B hml hv
  obtain ⟨rfl, hP, hK, hX⟩ := hv
  have hx := B.exec
  have hb := B.bytes
  have hr := B.returns
  have hts := atoms_spec (ws := wsX4_sumOf) B.pre
  have hown : s.vm.findClass RX4 = some m.cls := findClass_of_methodNamed B.named
  have hlocks := B.notSynchronized
  have hS : va_S (fun _ => False) s.heap s.heap [] := va_S.rf
  have wd1 : (Cond.fieldLink RX4 59 "PickSlots$Warehouse" "goods" "I").before [.ref (a 0), .ref (a 6)].toArray s = true := hts _ (List.mem_of_getElem? (i := 1) rfl)
  have hi4 : ∀ w ∈ wsX40, w ∈ wsX4_sumOf := fun w h => List.mem_cons_of_mem _ (List.mem_append_right _ (h))
  have hl := lv_entry ([.ref (a 0), .ref (a 6)]) (n := 4) (Nat.le_of_ble_eq_true rfl)
  rw [lg_entry_eq]
  generalize (lg_sl ([.ref (a 0), .ref (a 6)]) ++ List.replicate (4 - (lg_sl ([.ref (a 0), .ref (a 6)])).length) Slot.unset).toArray = ls at hl ⊢
  have hl : lv_has ls 4 [(0, .ref (a 0)), (1, .ref (a 6))] := hl
  refine lv_iconst (v := 0) hx hb dX4_sumOf_0 (by decide) ?_
  refine lv_istore_n (lv' := [(2, .int _), (0, .ref _), (1, .ref _)]) hx hb dX4_sumOf_1 rfl hl (by decide) rfl (fun ls hl => ?_)
  refine lv_iconst (v := 0) hx hb dX4_sumOf_2 (by decide) ?_
  refine lv_istore_n (lv' := [(3, .int _), (2, .int _), (0, .ref _), (1, .ref _)]) hx hb dX4_sumOf_3 rfl hl (by decide) rfl (fun ls hl => ?_)
  have L4 : ∀ (n4 : Nat) (v2 v3 : Int32), (0 ≤ v3.toInt) → (v3.toInt ≤ (N 0).toInt) → ((N 0).toInt - v3.toInt < (n4 : Int)) → sp_X4_sumOf6 N G = lp4_X4_sumOf6 N G (n4) v2 v3  → ∀ (ls : Array Slot), lv_has ls 4 [(2, .int v2), (3, .int v3), (0, .ref (a 0)), (1, .ref (a 6))] → W p l e (headSpec wsX4_sumOf ({ frames := 0, cells := 0, slots := 0, locals := 0 } : Room)).room s m [.ref (a 0), .ref (a 6)].toArray below meth c s.heap [] 0 0 (MQ below (vp_Si (fun r => r = sp_X4_sumOf6 N G)) [.ref (a 0), .ref (a 6)].toArray s 0 0 (fun _ => False)) (F0 m 4 ls []) := by
    intro n4
    induction n4 with
    | zero => intro v2 v3  i1 i2 im; exfalso; omega
    | succ n4 ih4 =>
      intro v2 v3  i1 i2 im hsp4 ls hl
      refine lv_iload_n hx hb dX4_sumOf_4 rfl (lv_at hl 1 rfl) ?_
      refine lv_aload_n hx hb dX4_sumOf_5 rfl (lv_at hl 2 rfl) ?_
      refine va_get (D := D) (ci := 3) (C := RX4) (T := TX4) (N := 13) hx hb hts hi4 hown hK hP 0 wg_0 rfl 11 (by decide) wd1 (fun _ h9 => h9) rfl dX4_sumOf_6 ?_
      refine lv_icmp_ge (tgt := 30) hx hb dX4_sumOf_9 (by decide) (fun c9 => ?_) (fun c9 => ?_)
      · refine lv_iload_n hx hb dX4_sumOf_30 rfl (lv_at hl 0 rfl) ?_
        exact ro_ret hx hb hr (Eq.trans hsp4 (Eq.trans (lp4_X4_sumOf6_s _ _ _ _ _) (Eq.trans (if_pos c9) (rfl)))) dX4_sumOf_31 hlocks
      · have hv : vp_in v3 20 := cnin20 hsf i1 c9
        refine lv_iload_n hx hb dX4_sumOf_12 rfl (lv_at hl 1 rfl) ?_
        refine lv_aload_n hx hb dX4_sumOf_13 rfl (lv_at hl 3 rfl) ?_
        refine va_alen hx hb hK hP 6 0 wg_6 rfl (v := 20) rfl dX4_sumOf_14 ?_
        refine lv_icmp_ge (tgt := 30) hx hb dX4_sumOf_15 (by decide) (fun c15 => ?_) (fun c15 => ?_)
        · refine lv_iload_n hx hb dX4_sumOf_30 rfl (lv_at hl 0 rfl) ?_
          exact ro_ret hx hb hr (Eq.trans hsp4 (Eq.trans (lp4_X4_sumOf6_s _ _ _ _ _) (Eq.trans (if_neg c9) (Eq.trans (if_pos c15) (rfl))))) dX4_sumOf_31 hlocks
        · refine lv_iload_n hx hb dX4_sumOf_18 rfl (lv_at hl 0 rfl) ?_
          refine lv_aload_n hx hb dX4_sumOf_19 rfl (lv_at hl 3 rfl) ?_
          refine lv_iload_n hx hb dX4_sumOf_20 rfl (lv_at hl 1 rfl) ?_
          refine va_iald hx hb hK hP 6 0 wg_6 rfl (by first | (with_reducible first | assumption | exact g20 (by assumption) (by assumption) | exact sl60 (by assumption) | exact s4 (by assumption)) | (unfold vp_in; decide)) dX4_sumOf_21 ?_
          refine lv_iadd hx hb dX4_sumOf_22 ?_
          refine lv_istore_n (lv' := [(2, .int _), (3, .int _), (0, .ref _), (1, .ref _)]) hx hb dX4_sumOf_23 rfl hl (by decide) rfl (fun ls hl => ?_)
          refine lv_iinc (v := _ + (1 : Int32)) (lv' := [(3, .int _), (2, .int _), (0, .ref _), (1, .ref _)]) hx hb dX4_sumOf_24 hl (k := 1) rfl rfl (by decide) rfl (fun ls hl => ?_)
          refine lv_goto (tgt := 4) hx hb dX4_sumOf_27 (by decide) ?_
          exact ih4 _ _ (cs1 i1 c9) (cs2 c9) (csm c9 im) (Eq.trans hsp4 (Eq.trans (lp4_X4_sumOf6_s _ _ _ _ _) (Eq.trans (if_neg c9) (Eq.trans (if_neg c15) (rfl))))) _ (lv_sub hl [1, 0, 2, 3] rfl)
  exact L4 21 _ _ (by decide) (cn2 hsf) (cnm hsf) (rfl) _ (lv_sub hl [1, 0, 2, 3] rfl)

def sp_X4_numberOfGood (N : Nat → Int32) (G : Nat → Int32) (x1 x2 : Int32) : Int32 :=
  if (sp_X4_isGood N G x1) = 0 then ((-1 : Int32)) else (if (sp_X5_isIn x2 (0 : Int32) (11 : Int32)) = 0 then ((-1 : Int32)) else (if x2 = (0 : Int32) then ((N (16 + 11 * (ix x1)))) else (if x2 = (1 : Int32) then ((N (17 + 11 * (ix x1)))) else (if x2 = (2 : Int32) then ((sp_X4_demandOf N G x1 (x2 - (2 : Int32)))) else (if x2 = (3 : Int32) then ((sp_X4_demandOf N G x1 (x2 - (2 : Int32)))) else (if x2 = (4 : Int32) then ((sp_X4_demandOf N G x1 (x2 - (2 : Int32)))) else (if x2 = (5 : Int32) then ((sp_X4_demandOf N G x1 (x2 - (2 : Int32)))) else (if x2 = (6 : Int32) then (if (sp_X4_isPlaced N G x1) = 0 then ((-4 : Int32)) else ((N (22 + 11 * (ix x1))))) else (if x2 = (7 : Int32) then ((N (23 + 11 * (ix x1)))) else (if x2 = (8 : Int32) then ((N (24 + 11 * (ix x1)))) else (if x2 = (9 : Int32) then ((N (25 + 11 * (ix x1)))) else (if x2 = (10 : Int32) then ((N (26 + 11 * (ix x1)))) else (if x2 = (11 : Int32) then ((sp_X2_greatestHeightFor (N (16 + 11 * (ix x1))))) else ((0 : Int32)))))))))))))))
set_option maxHeartbeats 4000000 in
set_option maxRecDepth 100000 in
theorem c_X4_numberOfGood (l : Launch) (D : va_G) (cI cC cW : ClassId) (t : Nat → Nat) (a : Nat → Nat) (N : Nat → Int32) (G : Nat → Int32) (x1 x2 : Int32) (hsf : sfN N) : Met l yX4_numberOfGood wsX4_numberOfGood ({ frames := 2, cells := 0, slots := 0, locals := 41 }) (va_Pc [.ref (a 0), .int x1, .int x2] (roP D (tyL cI cC cW) (wg cI a N G) t)) (vp_Si (fun r => r = sp_X4_numberOfGood N G x1 x2)) 0 0 (fun _ => False) := by
  refine Met.ofW (cc := cX4_numberOfGood) (maxL := 3) (ret := (some .int)) (by decide) rfl ?_
  intro p e s m args below meth c s₁ B hml hv
  obtain ⟨rfl, hP, hK, hX⟩ := hv
  have hx := B.exec
  have hb := B.bytes
  have hr := B.returns
  have hts := atoms_spec (ws := wsX4_numberOfGood) B.pre
  have hown : s.vm.findClass RX4 = some m.cls := findClass_of_methodNamed B.named
  have hlocks := B.notSynchronized
  have hS : va_S (fun _ => False) s.heap s.heap [] := va_S.rf
  have wd15 : (Cond.initialized RX5).before [.ref (a 0), .int x1, .int x2].toArray s = true := hts _ (List.mem_of_getElem? (i := 15) rfl)
  have wd14 : (Cond.static yX5_isIn).before [.ref (a 0), .int x1, .int x2].toArray s = true := hts _ (List.mem_of_getElem? (i := 14) rfl)
  have wd1 : (Cond.fieldLink RX4 9 "PickSlots$Warehouse" "weights" "[I").before [.ref (a 0), .int x1, .int x2].toArray s = true := hts _ (List.mem_of_getElem? (i := 1) rfl)
  have wd2 : (Cond.fieldLink RX4 15 "PickSlots$Warehouse" "capacities" "[I").before [.ref (a 0), .int x1, .int x2].toArray s = true := hts _ (List.mem_of_getElem? (i := 2) rfl)
  have wd3 : (Cond.fieldLink RX4 21 "PickSlots$Warehouse" "slotOfGood" "[I").before [.ref (a 0), .int x1, .int x2].toArray s = true := hts _ (List.mem_of_getElem? (i := 3) rfl)
  have wd4 : (Cond.fieldLink RX4 24 "PickSlots$Warehouse" "unitsInSlot" "[I").before [.ref (a 0), .int x1, .int x2].toArray s = true := hts _ (List.mem_of_getElem? (i := 4) rfl)
  have wd5 : (Cond.fieldLink RX4 27 "PickSlots$Warehouse" "unitsInStore" "[I").before [.ref (a 0), .int x1, .int x2].toArray s = true := hts _ (List.mem_of_getElem? (i := 5) rfl)
  have wd6 : (Cond.fieldLink RX4 30 "PickSlots$Warehouse" "weekPicks" "[I").before [.ref (a 0), .int x1, .int x2].toArray s = true := hts _ (List.mem_of_getElem? (i := 6) rfl)
  have wd7 : (Cond.fieldLink RX4 33 "PickSlots$Warehouse" "unitsPicked" "[I").before [.ref (a 0), .int x1, .int x2].toArray s = true := hts _ (List.mem_of_getElem? (i := 7) rfl)
  have hi4 : ∀ w ∈ wsX40, w ∈ wsX4_numberOfGood := fun w h => List.mem_cons_of_mem _ (List.mem_append_right _ (h))
  have CF : CallFix p m c cX4_numberOfGood 3 s [.ref (a 0), .int x1, .int x2].toArray wsX4_numberOfGood RX4 := ⟨hx, hb, hml, hown, hts⟩
  have hl := lv_entry ([.ref (a 0), .int x1, .int x2]) (n := 3) (Nat.le_of_ble_eq_true rfl)
  rw [lg_entry_eq]
  generalize (lg_sl ([.ref (a 0), .int x1, .int x2]) ++ List.replicate (3 - (lg_sl ([.ref (a 0), .int x1, .int x2])).length) Slot.unset).toArray = ls at hl ⊢
  have hl : lv_has ls 3 [(0, .ref (a 0)), (1, .int x1), (2, .int x2)] := hl
  refine lv_aload_n hx hb dX4_numberOfGood_0 rfl (lv_at hl 0 rfl) ?_
  refine lv_iload_n hx hb dX4_numberOfGood_1 rfl (lv_at hl 1 rfl) ?_
  refine roV CF (c_X4_isGood l D cI cC cW t _ _ _ _ ) (cwV 1 hts gX4_numberOfGood_X4_isGood rfl rfl rfl (by decide +kernel) ⟨Nat.le_of_ble_eq_true rfl, Nat.le_of_ble_eq_true rfl⟩) hP hK hX hS 0 3 wg_0 rfl rfl hl.1 rfl (Nat.le_of_ble_eq_true rfl) dX4_numberOfGood_2 ⟨Nat.zero_le _, Nat.zero_le _⟩ ?_
  refine lv_if_eq (tgt := 18) hx hb dX4_numberOfGood_5 (by decide) (fun c5 => ?_) (fun c5 => ?_)
  · refine lv_iconst (v := -1) hx hb dX4_numberOfGood_18 (by decide) ?_
    exact ro_ret hx hb hr (Eq.trans (if_pos c5) (rfl)) dX4_numberOfGood_19 hlocks
  · have hg : vp_in x1 20 := g20 hsf c5
    refine lv_iload_n hx hb dX4_numberOfGood_8 rfl (lv_at hl 2 rfl) ?_
    refine lv_iconst (v := 0) hx hb dX4_numberOfGood_9 (by decide) ?_
    refine lv_bipush (v := 11) hx hb dX4_numberOfGood_10 (by decide) ?_
    refine roSN CF (c_X5_isIn l D cI cC cW t _ _ _ ) (va_cnB 3 hts gX4_numberOfGood_X5_isIn_n86 rfl rfl rfl (hX.1.2 ("PickSlots$Warehouse", 86, yX5_isIn) (List.mem_of_getElem? (i := 3) rfl)) wd15 (by decide +kernel) ⟨Nat.le_of_ble_eq_true rfl, Nat.le_of_ble_eq_true rfl⟩) wd14 vP_nil hK hX hS rfl hl.1 rfl (Nat.le_of_ble_eq_true rfl) dX4_numberOfGood_12 ⟨Nat.zero_le _, Nat.zero_le _⟩ ?_
    refine lv_if_ne (tgt := 20) hx hb dX4_numberOfGood_15 (by decide) (fun c15 => ?_) (fun c15 => ?_)
    · refine lv_iload_n hx hb dX4_numberOfGood_20 rfl (lv_at hl 2 rfl) ?_
      by_cases c21_0 : x2 = (0 : Int32)
      · refine lv_tableIn (tgt := 84) hx hb dX4_numberOfGood_21 (by rw [c21_0]; decide) (by rw [c21_0]; decide) (by rw [c21_0]; rfl) (by decide) ?_
        refine lv_aload_n hx hb dX4_numberOfGood_84 rfl (lv_at hl 0 rfl) ?_
        refine va_get (D := D) (ci := 3) (C := RX4) (T := TX4) (N := 13) hx hb hts hi4 hown hK hP 0 wg_0 rfl 0 (by decide) wd1 (fun _ h9 => h9) rfl dX4_numberOfGood_85 ?_
        refine lv_iload_n hx hb dX4_numberOfGood_88 rfl (lv_at hl 1 rfl) ?_
        refine va_iald hx hb hK hP 1 0 wg_1 rfl (by first | (with_reducible first | assumption | exact g20 (by assumption) (by assumption) | exact sl60 (by assumption) | exact s4 (by assumption)) | (unfold vp_in; decide)) dX4_numberOfGood_89 ?_
        exact ro_ret hx hb hr (Eq.trans (if_neg c5) (Eq.trans (if_neg c15) (Eq.trans (if_pos c21_0) (rfl)))) dX4_numberOfGood_90 hlocks
      · by_cases c21_1 : x2 = (1 : Int32)
        · refine lv_tableIn (tgt := 91) hx hb dX4_numberOfGood_21 (by rw [c21_1]; decide) (by rw [c21_1]; decide) (by rw [c21_1]; rfl) (by decide) ?_
          refine lv_aload_n hx hb dX4_numberOfGood_91 rfl (lv_at hl 0 rfl) ?_
          refine va_get (D := D) (ci := 3) (C := RX4) (T := TX4) (N := 13) hx hb hts hi4 hown hK hP 0 wg_0 rfl 1 (by decide) wd2 (fun _ h9 => h9) rfl dX4_numberOfGood_92 ?_
          refine lv_iload_n hx hb dX4_numberOfGood_95 rfl (lv_at hl 1 rfl) ?_
          refine va_iald hx hb hK hP 2 0 wg_2 rfl (by first | (with_reducible first | assumption | exact g20 (by assumption) (by assumption) | exact sl60 (by assumption) | exact s4 (by assumption)) | (unfold vp_in; decide)) dX4_numberOfGood_96 ?_
          exact ro_ret hx hb hr (Eq.trans (if_neg c5) (Eq.trans (if_neg c15) (Eq.trans (if_neg c21_0) (Eq.trans (if_pos c21_1) (rfl))))) dX4_numberOfGood_97 hlocks
        · by_cases c21_2 : x2 = (2 : Int32)
          · refine lv_tableIn (tgt := 156) hx hb dX4_numberOfGood_21 (by rw [c21_2]; decide) (by rw [c21_2]; decide) (by rw [c21_2]; rfl) (by decide) ?_
            refine lv_aload_n hx hb dX4_numberOfGood_156 rfl (lv_at hl 0 rfl) ?_
            refine lv_iload_n hx hb dX4_numberOfGood_157 rfl (lv_at hl 1 rfl) ?_
            refine lv_iload_n hx hb dX4_numberOfGood_158 rfl (lv_at hl 2 rfl) ?_
            refine lv_iconst (v := 2) hx hb dX4_numberOfGood_159 (by decide) ?_
            refine lv_isub hx hb dX4_numberOfGood_160 ?_
            refine roV CF (c_X4_demandOf l D cI cC cW t _ _ _ _ _ (hg) (sub2 (by first | exact Or.inl (by assumption) | exact Or.inr (Or.inl (by assumption)) | exact Or.inr (Or.inr (Or.inl (by assumption))) | exact Or.inr (Or.inr (Or.inr (by assumption)))))) (cwV 2 hts gX4_numberOfGood_X4_demandOf rfl rfl rfl (by decide +kernel) ⟨Nat.le_of_ble_eq_true rfl, Nat.le_of_ble_eq_true rfl⟩) hP hK hX hS 0 3 wg_0 rfl rfl hl.1 rfl (Nat.le_of_ble_eq_true rfl) dX4_numberOfGood_161 ⟨Nat.zero_le _, Nat.zero_le _⟩ ?_
            exact ro_ret hx hb hr (Eq.trans (if_neg c5) (Eq.trans (if_neg c15) (Eq.trans (if_neg c21_0) (Eq.trans (if_neg c21_1) (Eq.trans (if_pos c21_2) (rfl)))))) dX4_numberOfGood_164 hlocks
          · by_cases c21_3 : x2 = (3 : Int32)
            · refine lv_tableIn (tgt := 156) hx hb dX4_numberOfGood_21 (by rw [c21_3]; decide) (by rw [c21_3]; decide) (by rw [c21_3]; rfl) (by decide) ?_
              refine lv_aload_n hx hb dX4_numberOfGood_156 rfl (lv_at hl 0 rfl) ?_
              refine lv_iload_n hx hb dX4_numberOfGood_157 rfl (lv_at hl 1 rfl) ?_
              refine lv_iload_n hx hb dX4_numberOfGood_158 rfl (lv_at hl 2 rfl) ?_
              refine lv_iconst (v := 2) hx hb dX4_numberOfGood_159 (by decide) ?_
              refine lv_isub hx hb dX4_numberOfGood_160 ?_
              refine roV CF (c_X4_demandOf l D cI cC cW t _ _ _ _ _ (hg) (sub2 (by first | exact Or.inl (by assumption) | exact Or.inr (Or.inl (by assumption)) | exact Or.inr (Or.inr (Or.inl (by assumption))) | exact Or.inr (Or.inr (Or.inr (by assumption)))))) (cwV 2 hts gX4_numberOfGood_X4_demandOf rfl rfl rfl (by decide +kernel) ⟨Nat.le_of_ble_eq_true rfl, Nat.le_of_ble_eq_true rfl⟩) hP hK hX hS 0 3 wg_0 rfl rfl hl.1 rfl (Nat.le_of_ble_eq_true rfl) dX4_numberOfGood_161 ⟨Nat.zero_le _, Nat.zero_le _⟩ ?_
              exact ro_ret hx hb hr (Eq.trans (if_neg c5) (Eq.trans (if_neg c15) (Eq.trans (if_neg c21_0) (Eq.trans (if_neg c21_1) (Eq.trans (if_neg c21_2) (Eq.trans (if_pos c21_3) (rfl))))))) dX4_numberOfGood_164 hlocks
            · by_cases c21_4 : x2 = (4 : Int32)
              · refine lv_tableIn (tgt := 156) hx hb dX4_numberOfGood_21 (by rw [c21_4]; decide) (by rw [c21_4]; decide) (by rw [c21_4]; rfl) (by decide) ?_
                refine lv_aload_n hx hb dX4_numberOfGood_156 rfl (lv_at hl 0 rfl) ?_
                refine lv_iload_n hx hb dX4_numberOfGood_157 rfl (lv_at hl 1 rfl) ?_
                refine lv_iload_n hx hb dX4_numberOfGood_158 rfl (lv_at hl 2 rfl) ?_
                refine lv_iconst (v := 2) hx hb dX4_numberOfGood_159 (by decide) ?_
                refine lv_isub hx hb dX4_numberOfGood_160 ?_
                refine roV CF (c_X4_demandOf l D cI cC cW t _ _ _ _ _ (hg) (sub2 (by first | exact Or.inl (by assumption) | exact Or.inr (Or.inl (by assumption)) | exact Or.inr (Or.inr (Or.inl (by assumption))) | exact Or.inr (Or.inr (Or.inr (by assumption)))))) (cwV 2 hts gX4_numberOfGood_X4_demandOf rfl rfl rfl (by decide +kernel) ⟨Nat.le_of_ble_eq_true rfl, Nat.le_of_ble_eq_true rfl⟩) hP hK hX hS 0 3 wg_0 rfl rfl hl.1 rfl (Nat.le_of_ble_eq_true rfl) dX4_numberOfGood_161 ⟨Nat.zero_le _, Nat.zero_le _⟩ ?_
                exact ro_ret hx hb hr (Eq.trans (if_neg c5) (Eq.trans (if_neg c15) (Eq.trans (if_neg c21_0) (Eq.trans (if_neg c21_1) (Eq.trans (if_neg c21_2) (Eq.trans (if_neg c21_3) (Eq.trans (if_pos c21_4) (rfl)))))))) dX4_numberOfGood_164 hlocks
              · by_cases c21_5 : x2 = (5 : Int32)
                · refine lv_tableIn (tgt := 156) hx hb dX4_numberOfGood_21 (by rw [c21_5]; decide) (by rw [c21_5]; decide) (by rw [c21_5]; rfl) (by decide) ?_
                  refine lv_aload_n hx hb dX4_numberOfGood_156 rfl (lv_at hl 0 rfl) ?_
                  refine lv_iload_n hx hb dX4_numberOfGood_157 rfl (lv_at hl 1 rfl) ?_
                  refine lv_iload_n hx hb dX4_numberOfGood_158 rfl (lv_at hl 2 rfl) ?_
                  refine lv_iconst (v := 2) hx hb dX4_numberOfGood_159 (by decide) ?_
                  refine lv_isub hx hb dX4_numberOfGood_160 ?_
                  refine roV CF (c_X4_demandOf l D cI cC cW t _ _ _ _ _ (hg) (sub2 (by first | exact Or.inl (by assumption) | exact Or.inr (Or.inl (by assumption)) | exact Or.inr (Or.inr (Or.inl (by assumption))) | exact Or.inr (Or.inr (Or.inr (by assumption)))))) (cwV 2 hts gX4_numberOfGood_X4_demandOf rfl rfl rfl (by decide +kernel) ⟨Nat.le_of_ble_eq_true rfl, Nat.le_of_ble_eq_true rfl⟩) hP hK hX hS 0 3 wg_0 rfl rfl hl.1 rfl (Nat.le_of_ble_eq_true rfl) dX4_numberOfGood_161 ⟨Nat.zero_le _, Nat.zero_le _⟩ ?_
                  exact ro_ret hx hb hr (Eq.trans (if_neg c5) (Eq.trans (if_neg c15) (Eq.trans (if_neg c21_0) (Eq.trans (if_neg c21_1) (Eq.trans (if_neg c21_2) (Eq.trans (if_neg c21_3) (Eq.trans (if_neg c21_4) (Eq.trans (if_pos c21_5) (rfl))))))))) dX4_numberOfGood_164 hlocks
                · by_cases c21_6 : x2 = (6 : Int32)
                  · refine lv_tableIn (tgt := 98) hx hb dX4_numberOfGood_21 (by rw [c21_6]; decide) (by rw [c21_6]; decide) (by rw [c21_6]; rfl) (by decide) ?_
                    refine lv_aload_n hx hb dX4_numberOfGood_98 rfl (lv_at hl 0 rfl) ?_
                    refine lv_iload_n hx hb dX4_numberOfGood_99 rfl (lv_at hl 1 rfl) ?_
                    refine roV CF (c_X4_isPlaced l D cI cC cW t _ _ _ _ (by first | (with_reducible first | assumption | exact g20 (by assumption) (by assumption) | exact sl60 (by assumption) | exact s4 (by assumption)) | (unfold vp_in; decide))) (cwV 1 hts gX4_numberOfGood_X4_isPlaced rfl rfl rfl (by decide +kernel) ⟨Nat.le_of_ble_eq_true rfl, Nat.le_of_ble_eq_true rfl⟩) hP hK hX hS 0 3 wg_0 rfl rfl hl.1 rfl (Nat.le_of_ble_eq_true rfl) dX4_numberOfGood_100 ⟨Nat.zero_le _, Nat.zero_le _⟩ ?_
                    refine lv_if_eq (tgt := 115) hx hb dX4_numberOfGood_103 (by decide) (fun c103 => ?_) (fun c103 => ?_)
                    · refine lv_bipush (v := -4) hx hb dX4_numberOfGood_115 (by decide) ?_
                      exact ro_ret hx hb hr (Eq.trans (if_neg c5) (Eq.trans (if_neg c15) (Eq.trans (if_neg c21_0) (Eq.trans (if_neg c21_1) (Eq.trans (if_neg c21_2) (Eq.trans (if_neg c21_3) (Eq.trans (if_neg c21_4) (Eq.trans (if_neg c21_5) (Eq.trans (if_pos c21_6) (Eq.trans (if_pos c103) (rfl))))))))))) dX4_numberOfGood_117 hlocks
                    · refine lv_aload_n hx hb dX4_numberOfGood_106 rfl (lv_at hl 0 rfl) ?_
                      refine va_get (D := D) (ci := 3) (C := RX4) (T := TX4) (N := 13) hx hb hts hi4 hown hK hP 0 wg_0 rfl 3 (by decide) wd3 (fun _ h9 => h9) rfl dX4_numberOfGood_107 ?_
                      refine lv_iload_n hx hb dX4_numberOfGood_110 rfl (lv_at hl 1 rfl) ?_
                      refine va_iald hx hb hK hP 4 0 wg_4 rfl (by first | (with_reducible first | assumption | exact g20 (by assumption) (by assumption) | exact sl60 (by assumption) | exact s4 (by assumption)) | (unfold vp_in; decide)) dX4_numberOfGood_111 ?_
                      refine lv_goto (tgt := 117) hx hb dX4_numberOfGood_112 (by decide) ?_
                      exact ro_ret hx hb hr (Eq.trans (if_neg c5) (Eq.trans (if_neg c15) (Eq.trans (if_neg c21_0) (Eq.trans (if_neg c21_1) (Eq.trans (if_neg c21_2) (Eq.trans (if_neg c21_3) (Eq.trans (if_neg c21_4) (Eq.trans (if_neg c21_5) (Eq.trans (if_pos c21_6) (Eq.trans (if_neg c103) (rfl))))))))))) dX4_numberOfGood_117 hlocks
                  · by_cases c21_7 : x2 = (7 : Int32)
                    · refine lv_tableIn (tgt := 118) hx hb dX4_numberOfGood_21 (by rw [c21_7]; decide) (by rw [c21_7]; decide) (by rw [c21_7]; rfl) (by decide) ?_
                      refine lv_aload_n hx hb dX4_numberOfGood_118 rfl (lv_at hl 0 rfl) ?_
                      refine va_get (D := D) (ci := 3) (C := RX4) (T := TX4) (N := 13) hx hb hts hi4 hown hK hP 0 wg_0 rfl 4 (by decide) wd4 (fun _ h9 => h9) rfl dX4_numberOfGood_119 ?_
                      refine lv_iload_n hx hb dX4_numberOfGood_122 rfl (lv_at hl 1 rfl) ?_
                      refine va_iald hx hb hK hP 5 0 wg_5 rfl (by first | (with_reducible first | assumption | exact g20 (by assumption) (by assumption) | exact sl60 (by assumption) | exact s4 (by assumption)) | (unfold vp_in; decide)) dX4_numberOfGood_123 ?_
                      exact ro_ret hx hb hr (Eq.trans (if_neg c5) (Eq.trans (if_neg c15) (Eq.trans (if_neg c21_0) (Eq.trans (if_neg c21_1) (Eq.trans (if_neg c21_2) (Eq.trans (if_neg c21_3) (Eq.trans (if_neg c21_4) (Eq.trans (if_neg c21_5) (Eq.trans (if_neg c21_6) (Eq.trans (if_pos c21_7) (rfl))))))))))) dX4_numberOfGood_124 hlocks
                    · by_cases c21_8 : x2 = (8 : Int32)
                      · refine lv_tableIn (tgt := 125) hx hb dX4_numberOfGood_21 (by rw [c21_8]; decide) (by rw [c21_8]; decide) (by rw [c21_8]; rfl) (by decide) ?_
                        refine lv_aload_n hx hb dX4_numberOfGood_125 rfl (lv_at hl 0 rfl) ?_
                        refine va_get (D := D) (ci := 3) (C := RX4) (T := TX4) (N := 13) hx hb hts hi4 hown hK hP 0 wg_0 rfl 5 (by decide) wd5 (fun _ h9 => h9) rfl dX4_numberOfGood_126 ?_
                        refine lv_iload_n hx hb dX4_numberOfGood_129 rfl (lv_at hl 1 rfl) ?_
                        refine va_iald hx hb hK hP 6 0 wg_6 rfl (by first | (with_reducible first | assumption | exact g20 (by assumption) (by assumption) | exact sl60 (by assumption) | exact s4 (by assumption)) | (unfold vp_in; decide)) dX4_numberOfGood_130 ?_
                        exact ro_ret hx hb hr (Eq.trans (if_neg c5) (Eq.trans (if_neg c15) (Eq.trans (if_neg c21_0) (Eq.trans (if_neg c21_1) (Eq.trans (if_neg c21_2) (Eq.trans (if_neg c21_3) (Eq.trans (if_neg c21_4) (Eq.trans (if_neg c21_5) (Eq.trans (if_neg c21_6) (Eq.trans (if_neg c21_7) (Eq.trans (if_pos c21_8) (rfl)))))))))))) dX4_numberOfGood_131 hlocks
                      · by_cases c21_9 : x2 = (9 : Int32)
                        · refine lv_tableIn (tgt := 132) hx hb dX4_numberOfGood_21 (by rw [c21_9]; decide) (by rw [c21_9]; decide) (by rw [c21_9]; rfl) (by decide) ?_
                          refine lv_aload_n hx hb dX4_numberOfGood_132 rfl (lv_at hl 0 rfl) ?_
                          refine va_get (D := D) (ci := 3) (C := RX4) (T := TX4) (N := 13) hx hb hts hi4 hown hK hP 0 wg_0 rfl 6 (by decide) wd6 (fun _ h9 => h9) rfl dX4_numberOfGood_133 ?_
                          refine lv_iload_n hx hb dX4_numberOfGood_136 rfl (lv_at hl 1 rfl) ?_
                          refine va_iald hx hb hK hP 7 0 wg_7 rfl (by first | (with_reducible first | assumption | exact g20 (by assumption) (by assumption) | exact sl60 (by assumption) | exact s4 (by assumption)) | (unfold vp_in; decide)) dX4_numberOfGood_137 ?_
                          exact ro_ret hx hb hr (Eq.trans (if_neg c5) (Eq.trans (if_neg c15) (Eq.trans (if_neg c21_0) (Eq.trans (if_neg c21_1) (Eq.trans (if_neg c21_2) (Eq.trans (if_neg c21_3) (Eq.trans (if_neg c21_4) (Eq.trans (if_neg c21_5) (Eq.trans (if_neg c21_6) (Eq.trans (if_neg c21_7) (Eq.trans (if_neg c21_8) (Eq.trans (if_pos c21_9) (rfl))))))))))))) dX4_numberOfGood_138 hlocks
                        · by_cases c21_10 : x2 = (10 : Int32)
                          · refine lv_tableIn (tgt := 139) hx hb dX4_numberOfGood_21 (by rw [c21_10]; decide) (by rw [c21_10]; decide) (by rw [c21_10]; rfl) (by decide) ?_
                            refine lv_aload_n hx hb dX4_numberOfGood_139 rfl (lv_at hl 0 rfl) ?_
                            refine va_get (D := D) (ci := 3) (C := RX4) (T := TX4) (N := 13) hx hb hts hi4 hown hK hP 0 wg_0 rfl 7 (by decide) wd7 (fun _ h9 => h9) rfl dX4_numberOfGood_140 ?_
                            refine lv_iload_n hx hb dX4_numberOfGood_143 rfl (lv_at hl 1 rfl) ?_
                            refine va_iald hx hb hK hP 8 0 wg_8 rfl (by first | (with_reducible first | assumption | exact g20 (by assumption) (by assumption) | exact sl60 (by assumption) | exact s4 (by assumption)) | (unfold vp_in; decide)) dX4_numberOfGood_144 ?_
                            exact ro_ret hx hb hr (Eq.trans (if_neg c5) (Eq.trans (if_neg c15) (Eq.trans (if_neg c21_0) (Eq.trans (if_neg c21_1) (Eq.trans (if_neg c21_2) (Eq.trans (if_neg c21_3) (Eq.trans (if_neg c21_4) (Eq.trans (if_neg c21_5) (Eq.trans (if_neg c21_6) (Eq.trans (if_neg c21_7) (Eq.trans (if_neg c21_8) (Eq.trans (if_neg c21_9) (Eq.trans (if_pos c21_10) (rfl)))))))))))))) dX4_numberOfGood_145 hlocks
                          · by_cases c21_11 : x2 = (11 : Int32)
                            · refine lv_tableIn (tgt := 146) hx hb dX4_numberOfGood_21 (by rw [c21_11]; decide) (by rw [c21_11]; decide) (by rw [c21_11]; rfl) (by decide) ?_
                              refine lv_aload_n hx hb dX4_numberOfGood_146 rfl (lv_at hl 0 rfl) ?_
                              refine va_get (D := D) (ci := 3) (C := RX4) (T := TX4) (N := 13) hx hb hts hi4 hown hK hP 0 wg_0 rfl 0 (by decide) wd1 (fun _ h9 => h9) rfl dX4_numberOfGood_147 ?_
                              refine lv_iload_n hx hb dX4_numberOfGood_150 rfl (lv_at hl 1 rfl) ?_
                              refine va_iald hx hb hK hP 1 0 wg_1 rfl (by first | (with_reducible first | assumption | exact g20 (by assumption) (by assumption) | exact sl60 (by assumption) | exact s4 (by assumption)) | (unfold vp_in; decide)) dX4_numberOfGood_151 ?_
                              refine roS CF (c_X2_greatestHeightFor l D cI cC cW t _ ) (va_cwS 1 hts gX4_numberOfGood_X2_greatestHeightFor rfl rfl rfl (by decide +kernel) ⟨Nat.le_of_ble_eq_true rfl, Nat.le_of_ble_eq_true rfl⟩) vP_nil hK hX hS rfl hl.1 rfl (Nat.le_of_ble_eq_true rfl) dX4_numberOfGood_152 ⟨Nat.zero_le _, Nat.zero_le _⟩ ?_
                              exact ro_ret hx hb hr (Eq.trans (if_neg c5) (Eq.trans (if_neg c15) (Eq.trans (if_neg c21_0) (Eq.trans (if_neg c21_1) (Eq.trans (if_neg c21_2) (Eq.trans (if_neg c21_3) (Eq.trans (if_neg c21_4) (Eq.trans (if_neg c21_5) (Eq.trans (if_neg c21_6) (Eq.trans (if_neg c21_7) (Eq.trans (if_neg c21_8) (Eq.trans (if_neg c21_9) (Eq.trans (if_neg c21_10) (Eq.trans (if_pos c21_11) (rfl))))))))))))))) dX4_numberOfGood_155 hlocks
                            · exact ((by have q := isIn_of c15; rw [show (0 : Int32).toInt = 0 from by decide, show (11 : Int32).toInt = 11 from by decide] at q; have q0 := lv_neT c21_0 (a := 0) (by decide); have q1 := lv_neT c21_1 (a := 1) (by decide); have q2 := lv_neT c21_2 (a := 2) (by decide); have q3 := lv_neT c21_3 (a := 3) (by decide); have q4 := lv_neT c21_4 (a := 4) (by decide); have q5 := lv_neT c21_5 (a := 5) (by decide); have q6 := lv_neT c21_6 (a := 6) (by decide); have q7 := lv_neT c21_7 (a := 7) (by decide); have q8 := lv_neT c21_8 (a := 8) (by decide); have q9 := lv_neT c21_9 (a := 9) (by decide); have q10 := lv_neT c21_10 (a := 10) (by decide); have q11 := lv_neT c21_11 (a := 11) (by decide); omega : False)).elim
    · refine lv_iconst (v := -1) hx hb dX4_numberOfGood_18 (by decide) ?_
      exact ro_ret hx hb hr (Eq.trans (if_neg c5) (Eq.trans (if_pos c15) (rfl))) dX4_numberOfGood_19 hlocks

def sp_X4_numberOfSlot (N : Nat → Int32) (G : Nat → Int32) (x1 x2 : Int32) : Int32 :=
  if (sp_X2_isSlot x1) = 0 then ((-1 : Int32)) else (if x2 = (0 : Int32) then (if (sp_X4_isGood N G (G ((ix x1)))) = 0 then ((-4 : Int32)) else ((G ((ix x1))))) else (if x2 = (1 : Int32) then ((sp_X2_walkTo x1)) else (if x2 = (2 : Int32) then ((sp_X2_heaviestAt x1)) else ((-1 : Int32)))))
set_option maxHeartbeats 4000000 in
set_option maxRecDepth 100000 in
theorem c_X4_numberOfSlot (l : Launch) (D : va_G) (cI cC cW : ClassId) (t : Nat → Nat) (a : Nat → Nat) (N : Nat → Int32) (G : Nat → Int32) (x1 x2 : Int32)  : Met l yX4_numberOfSlot wsX4_numberOfSlot ({ frames := 1, cells := 0, slots := 0, locals := 21 }) (va_Pc [.ref (a 0), .int x1, .int x2] (roP D (tyL cI cC cW) (wg cI a N G) t)) (vp_Si (fun r => r = sp_X4_numberOfSlot N G x1 x2)) 0 0 (fun _ => False) := by
  refine Met.ofW (cc := cX4_numberOfSlot) (maxL := 3) (ret := (some .int)) (by decide) rfl ?_
  intro p e s m args below meth c s₁ B hml hv
  obtain ⟨rfl, hP, hK, hX⟩ := hv
  have hx := B.exec
  have hb := B.bytes
  have hr := B.returns
  have hts := atoms_spec (ws := wsX4_numberOfSlot) B.pre
  have hown : s.vm.findClass RX4 = some m.cls := findClass_of_methodNamed B.named
  have hlocks := B.notSynchronized
  have hS : va_S (fun _ => False) s.heap s.heap [] := va_S.rf
  have wd1 : (Cond.fieldLink RX4 38 "PickSlots$Warehouse" "goodInSlot" "[I").before [.ref (a 0), .int x1, .int x2].toArray s = true := hts _ (List.mem_of_getElem? (i := 1) rfl)
  have hi4 : ∀ w ∈ wsX40, w ∈ wsX4_numberOfSlot := fun w h => List.mem_cons_of_mem _ (List.mem_append_right _ (h))
  have CF : CallFix p m c cX4_numberOfSlot 3 s [.ref (a 0), .int x1, .int x2].toArray wsX4_numberOfSlot RX4 := ⟨hx, hb, hml, hown, hts⟩
  have hl := lv_entry ([.ref (a 0), .int x1, .int x2]) (n := 3) (Nat.le_of_ble_eq_true rfl)
  rw [lg_entry_eq]
  generalize (lg_sl ([.ref (a 0), .int x1, .int x2]) ++ List.replicate (3 - (lg_sl ([.ref (a 0), .int x1, .int x2])).length) Slot.unset).toArray = ls at hl ⊢
  have hl : lv_has ls 3 [(0, .ref (a 0)), (1, .int x1), (2, .int x2)] := hl
  refine lv_iload_n hx hb dX4_numberOfSlot_0 rfl (lv_at hl 1 rfl) ?_
  refine roS CF (c_X2_isSlot l D cI cC cW t _ ) (va_cwS 1 hts gX4_numberOfSlot_X2_isSlot rfl rfl rfl (by decide +kernel) ⟨Nat.le_of_ble_eq_true rfl, Nat.le_of_ble_eq_true rfl⟩) vP_nil hK hX hS rfl hl.1 rfl (Nat.le_of_ble_eq_true rfl) dX4_numberOfSlot_1 ⟨Nat.zero_le _, Nat.zero_le _⟩ ?_
  refine lv_if_ne (tgt := 9) hx hb dX4_numberOfSlot_4 (by decide) (fun c4 => ?_) (fun c4 => ?_)
  · have hg : vp_in x1 60 := sl60 c4
    refine lv_iload_n hx hb dX4_numberOfSlot_9 rfl (lv_at hl 2 rfl) ?_
    by_cases c10_0 : x2 = (0 : Int32)
    · refine lv_tableIn (tgt := 36) hx hb dX4_numberOfSlot_10 (by rw [c10_0]; decide) (by rw [c10_0]; decide) (by rw [c10_0]; rfl) (by decide) ?_
      refine lv_aload_n hx hb dX4_numberOfSlot_36 rfl (lv_at hl 0 rfl) ?_
      refine lv_aload_n hx hb dX4_numberOfSlot_37 rfl (lv_at hl 0 rfl) ?_
      refine va_get (D := D) (ci := 3) (C := RX4) (T := TX4) (N := 13) hx hb hts hi4 hown hK hP 0 wg_0 rfl 8 (by decide) wd1 (fun _ h9 => h9) rfl dX4_numberOfSlot_38 ?_
      refine lv_iload_n hx hb dX4_numberOfSlot_41 rfl (lv_at hl 1 rfl) ?_
      refine va_iald hx hb hK hP 9 0 wg_9 rfl (by first | (with_reducible first | assumption | exact g20 (by assumption) (by assumption) | exact sl60 (by assumption) | exact s4 (by assumption)) | (unfold vp_in; decide)) dX4_numberOfSlot_42 ?_
      refine roV CF (c_X4_isGood l D cI cC cW t _ _ _ _ ) (cwV 1 hts gX4_numberOfSlot_X4_isGood rfl rfl rfl (by decide +kernel) ⟨Nat.le_of_ble_eq_true rfl, Nat.le_of_ble_eq_true rfl⟩) hP hK hX hS 0 3 wg_0 rfl rfl hl.1 rfl (Nat.le_of_ble_eq_true rfl) dX4_numberOfSlot_43 ⟨Nat.zero_le _, Nat.zero_le _⟩ ?_
      refine lv_if_eq (tgt := 58) hx hb dX4_numberOfSlot_46 (by decide) (fun c46 => ?_) (fun c46 => ?_)
      · refine lv_bipush (v := -4) hx hb dX4_numberOfSlot_58 (by decide) ?_
        exact ro_ret hx hb hr (Eq.trans (if_neg c4) (Eq.trans (if_pos c10_0) (Eq.trans (if_pos c46) (rfl)))) dX4_numberOfSlot_60 hlocks
      · refine lv_aload_n hx hb dX4_numberOfSlot_49 rfl (lv_at hl 0 rfl) ?_
        refine va_get (D := D) (ci := 3) (C := RX4) (T := TX4) (N := 13) hx hb hts hi4 hown hK hP 0 wg_0 rfl 8 (by decide) wd1 (fun _ h9 => h9) rfl dX4_numberOfSlot_50 ?_
        refine lv_iload_n hx hb dX4_numberOfSlot_53 rfl (lv_at hl 1 rfl) ?_
        refine va_iald hx hb hK hP 9 0 wg_9 rfl (by first | (with_reducible first | assumption | exact g20 (by assumption) (by assumption) | exact sl60 (by assumption) | exact s4 (by assumption)) | (unfold vp_in; decide)) dX4_numberOfSlot_54 ?_
        refine lv_goto (tgt := 60) hx hb dX4_numberOfSlot_55 (by decide) ?_
        exact ro_ret hx hb hr (Eq.trans (if_neg c4) (Eq.trans (if_pos c10_0) (Eq.trans (if_neg c46) (rfl)))) dX4_numberOfSlot_60 hlocks
    · by_cases c10_1 : x2 = (1 : Int32)
      · refine lv_tableIn (tgt := 61) hx hb dX4_numberOfSlot_10 (by rw [c10_1]; decide) (by rw [c10_1]; decide) (by rw [c10_1]; rfl) (by decide) ?_
        refine lv_iload_n hx hb dX4_numberOfSlot_61 rfl (lv_at hl 1 rfl) ?_
        refine roS CF (c_X2_walkTo l D cI cC cW t _ ) (va_cwS 1 hts gX4_numberOfSlot_X2_walkTo rfl rfl rfl (by decide +kernel) ⟨Nat.le_of_ble_eq_true rfl, Nat.le_of_ble_eq_true rfl⟩) vP_nil hK hX hS rfl hl.1 rfl (Nat.le_of_ble_eq_true rfl) dX4_numberOfSlot_62 ⟨Nat.zero_le _, Nat.zero_le _⟩ ?_
        exact ro_ret hx hb hr (Eq.trans (if_neg c4) (Eq.trans (if_neg c10_0) (Eq.trans (if_pos c10_1) (rfl)))) dX4_numberOfSlot_65 hlocks
      · by_cases c10_2 : x2 = (2 : Int32)
        · refine lv_tableIn (tgt := 66) hx hb dX4_numberOfSlot_10 (by rw [c10_2]; decide) (by rw [c10_2]; decide) (by rw [c10_2]; rfl) (by decide) ?_
          refine lv_iload_n hx hb dX4_numberOfSlot_66 rfl (lv_at hl 1 rfl) ?_
          refine roS CF (c_X2_heaviestAt l D cI cC cW t _ ) (va_cwS 1 hts gX4_numberOfSlot_X2_heaviestAt rfl rfl rfl (by decide +kernel) ⟨Nat.le_of_ble_eq_true rfl, Nat.le_of_ble_eq_true rfl⟩) vP_nil hK hX hS rfl hl.1 rfl (Nat.le_of_ble_eq_true rfl) dX4_numberOfSlot_67 ⟨Nat.zero_le _, Nat.zero_le _⟩ ?_
          exact ro_ret hx hb hr (Eq.trans (if_neg c4) (Eq.trans (if_neg c10_0) (Eq.trans (if_neg c10_1) (Eq.trans (if_pos c10_2) (rfl))))) dX4_numberOfSlot_70 hlocks
        · refine lv_tableOut (tgt := 71) hx hb dX4_numberOfSlot_10 (by have q0 := lv_neT c10_0 (a := 0) (by decide); have q1 := lv_neT c10_1 (a := 1) (by decide); have q2 := lv_neT c10_2 (a := 2) (by decide); omega) (by decide) ?_
          refine lv_iconst (v := -1) hx hb dX4_numberOfSlot_71 (by decide) ?_
          exact ro_ret hx hb hr (Eq.trans (if_neg c4) (Eq.trans (if_neg c10_0) (Eq.trans (if_neg c10_1) (Eq.trans (if_neg c10_2) (rfl))))) dX4_numberOfSlot_72 hlocks
  · refine lv_iconst (v := -1) hx hb dX4_numberOfSlot_7 (by decide) ?_
    exact ro_ret hx hb hr (Eq.trans (if_pos c4) (rfl)) dX4_numberOfSlot_8 hlocks

def lp15_X4_nearestFreeSlot (N : Nat → Int32) (G : Nat → Int32) (x1 : Int32) : Nat → Int32 → Int32 → Int32
  | 0, v2, v3 => 0
  | n + 1, v2, v3 => if (60 : Int32) ≤ v3 then (v2) else (if (sp_X4_isGood N G (G ((ix v3)))) = 0 then (if (sp_X4_bears N G v3 x1) = 0 then (lp15_X4_nearestFreeSlot N G x1 n v2 (v3 + (1 : Int32)) ) else (if v2 < 0 then (lp15_X4_nearestFreeSlot N G x1 n v3 (v3 + (1 : Int32)) ) else (if (sp_X2_walkTo v2) ≤ (sp_X2_walkTo v3) then (lp15_X4_nearestFreeSlot N G x1 n v2 (v3 + (1 : Int32)) ) else (lp15_X4_nearestFreeSlot N G x1 n v3 (v3 + (1 : Int32)) )))) else (lp15_X4_nearestFreeSlot N G x1 n v2 (v3 + (1 : Int32)) ))
theorem lp15_X4_nearestFreeSlot_s (N : Nat → Int32) (G : Nat → Int32) (x1 : Int32) (n : Nat) (v2 : Int32) (v3 : Int32)  : lp15_X4_nearestFreeSlot N G x1 (n + 1) v2 v3 = if (60 : Int32) ≤ v3 then (v2) else (if (sp_X4_isGood N G (G ((ix v3)))) = 0 then (if (sp_X4_bears N G v3 x1) = 0 then (lp15_X4_nearestFreeSlot N G x1 n v2 (v3 + (1 : Int32)) ) else (if v2 < 0 then (lp15_X4_nearestFreeSlot N G x1 n v3 (v3 + (1 : Int32)) ) else (if (sp_X2_walkTo v2) ≤ (sp_X2_walkTo v3) then (lp15_X4_nearestFreeSlot N G x1 n v2 (v3 + (1 : Int32)) ) else (lp15_X4_nearestFreeSlot N G x1 n v3 (v3 + (1 : Int32)) )))) else (lp15_X4_nearestFreeSlot N G x1 n v2 (v3 + (1 : Int32)) )) := rfl
def sp_X4_nearestFreeSlot (N : Nat → Int32) (G : Nat → Int32) (x1 : Int32) : Int32 :=
  if (sp_X4_isGood N G x1) = 0 then ((-1 : Int32)) else (lp15_X4_nearestFreeSlot N G x1 61 (-4 : Int32) (0 : Int32) )
set_option maxHeartbeats 4000000 in
set_option maxRecDepth 100000 in
theorem c_X4_nearestFreeSlot (l : Launch) (D : va_G) (cI cC cW : ClassId) (t : Nat → Nat) (a : Nat → Nat) (N : Nat → Int32) (G : Nat → Int32) (x1 : Int32) (hsf : sfN N) : Met l yX4_nearestFreeSlot wsX4_nearestFreeSlot ({ frames := 2, cells := 0, slots := 0, locals := 42 }) (va_Pc [.ref (a 0), .int x1] (roP D (tyL cI cC cW) (wg cI a N G) t)) (vp_Si (fun r => r = sp_X4_nearestFreeSlot N G x1)) 0 0 (fun _ => False) := by
  refine Met.ofW (cc := cX4_nearestFreeSlot) (maxL := 5) (ret := (some .int)) (by decide) rfl ?_
  intro p e s m args below meth c s₁ B hml hv
  obtain ⟨rfl, hP, hK, hX⟩ := hv
  have hx := B.exec
  have hb := B.bytes
  have hr := B.returns
  have hts := atoms_spec (ws := wsX4_nearestFreeSlot) B.pre
  have hown : s.vm.findClass RX4 = some m.cls := findClass_of_methodNamed B.named
  have hlocks := B.notSynchronized
  have hS : va_S (fun _ => False) s.heap s.heap [] := va_S.rf
  have wd1 : (Cond.fieldLink RX4 38 "PickSlots$Warehouse" "goodInSlot" "[I").before [.ref (a 0), .int x1].toArray s = true := hts _ (List.mem_of_getElem? (i := 1) rfl)
  have hi4 : ∀ w ∈ wsX40, w ∈ wsX4_nearestFreeSlot := fun w h => List.mem_cons_of_mem _ (List.mem_append_right _ (h))
  have CF : CallFix p m c cX4_nearestFreeSlot 5 s [.ref (a 0), .int x1].toArray wsX4_nearestFreeSlot RX4 := ⟨hx, hb, hml, hown, hts⟩
  have hl := lv_entry ([.ref (a 0), .int x1]) (n := 5) (Nat.le_of_ble_eq_true rfl)
  rw [lg_entry_eq]
  generalize (lg_sl ([.ref (a 0), .int x1]) ++ List.replicate (5 - (lg_sl ([.ref (a 0), .int x1])).length) Slot.unset).toArray = ls at hl ⊢
  have hl : lv_has ls 5 [(0, .ref (a 0)), (1, .int x1)] := hl
  refine lv_aload_n hx hb dX4_nearestFreeSlot_0 rfl (lv_at hl 0 rfl) ?_
  refine lv_iload_n hx hb dX4_nearestFreeSlot_1 rfl (lv_at hl 1 rfl) ?_
  refine roV CF (c_X4_isGood l D cI cC cW t _ _ _ _ ) (cwV 1 hts gX4_nearestFreeSlot_X4_isGood rfl rfl rfl (by decide +kernel) ⟨Nat.le_of_ble_eq_true rfl, Nat.le_of_ble_eq_true rfl⟩) hP hK hX hS 0 3 wg_0 rfl rfl hl.1 rfl (Nat.le_of_ble_eq_true rfl) dX4_nearestFreeSlot_2 ⟨Nat.zero_le _, Nat.zero_le _⟩ ?_
  refine lv_if_ne (tgt := 10) hx hb dX4_nearestFreeSlot_5 (by decide) (fun c5 => ?_) (fun c5 => ?_)
  · have hg : vp_in x1 20 := g20 hsf c5
    refine lv_bipush (v := -4) hx hb dX4_nearestFreeSlot_10 (by decide) ?_
    refine lv_istore_n (lv' := [(2, .int _), (0, .ref _), (1, .int _)]) hx hb dX4_nearestFreeSlot_12 rfl hl (by decide) rfl (fun ls hl => ?_)
    refine lv_iconst (v := 0) hx hb dX4_nearestFreeSlot_13 (by decide) ?_
    refine lv_istore_n (lv' := [(3, .int _), (2, .int _), (0, .ref _), (1, .int _)]) hx hb dX4_nearestFreeSlot_14 rfl hl (by decide) rfl (fun ls hl => ?_)
    have L15 : ∀ (n15 : Nat) (v2 v3 : Int32), (0 ≤ v3.toInt) → (v3.toInt ≤ (60 : Int32).toInt) → ((60 : Int32).toInt - v3.toInt < (n15 : Int)) → sp_X4_nearestFreeSlot N G x1 = lp15_X4_nearestFreeSlot N G x1 (n15) v2 v3  → ∀ (ls : Array Slot), lv_has ls 5 [(2, .int v2), (3, .int v3), (0, .ref (a 0)), (1, .int x1)] → W p l e (headSpec wsX4_nearestFreeSlot ({ frames := 2, cells := 0, slots := 0, locals := 42 } : Room)).room s m [.ref (a 0), .int x1].toArray below meth c s.heap [] 0 0 (MQ below (vp_Si (fun r => r = sp_X4_nearestFreeSlot N G x1)) [.ref (a 0), .int x1].toArray s 0 0 (fun _ => False)) (F0 m 15 ls []) := by
      intro n15
      induction n15 with
      | zero => intro v2 v3  i1 i2 im; exfalso; omega
      | succ n15 ih15 =>
        intro v2 v3  i1 i2 im hsp15 ls hl
        refine lv_iload_n hx hb dX4_nearestFreeSlot_15 rfl (lv_at hl 1 rfl) ?_
        refine lv_bipush (v := 60) hx hb dX4_nearestFreeSlot_16 (by decide) ?_
        refine lv_icmp_ge (tgt := 78) hx hb dX4_nearestFreeSlot_18 (by decide) (fun c18 => ?_) (fun c18 => ?_)
        · refine lv_iload_n hx hb dX4_nearestFreeSlot_78 rfl (lv_at hl 0 rfl) ?_
          exact ro_ret hx hb hr (Eq.trans hsp15 (Eq.trans (lp15_X4_nearestFreeSlot_s _ _ _ _ _ _) (Eq.trans (if_pos c18) (rfl)))) dX4_nearestFreeSlot_79 hlocks
        · have hv : vp_in v3 60 := cnin 60 rfl i1 c18
          refine lv_aload_n hx hb dX4_nearestFreeSlot_21 rfl (lv_at hl 2 rfl) ?_
          refine lv_aload_n hx hb dX4_nearestFreeSlot_22 rfl (lv_at hl 2 rfl) ?_
          refine va_get (D := D) (ci := 3) (C := RX4) (T := TX4) (N := 13) hx hb hts hi4 hown hK hP 0 wg_0 rfl 8 (by decide) wd1 (fun _ h9 => h9) rfl dX4_nearestFreeSlot_23 ?_
          refine lv_iload_n hx hb dX4_nearestFreeSlot_26 rfl (lv_at hl 1 rfl) ?_
          refine va_iald hx hb hK hP 9 0 wg_9 rfl (by first | (with_reducible first | assumption | exact g20 (by assumption) (by assumption) | exact sl60 (by assumption) | exact s4 (by assumption)) | (unfold vp_in; decide)) dX4_nearestFreeSlot_27 ?_
          refine roV CF (c_X4_isGood l D cI cC cW t _ _ _ _ ) (cwV 1 hts gX4_nearestFreeSlot_X4_isGood rfl rfl rfl (by decide +kernel) ⟨Nat.le_of_ble_eq_true rfl, Nat.le_of_ble_eq_true rfl⟩) hP hK hX hS 0 3 wg_0 rfl rfl hl.1 rfl (Nat.le_of_ble_eq_true rfl) dX4_nearestFreeSlot_28 ⟨Nat.zero_le _, Nat.zero_le _⟩ ?_
          refine lv_if_ne (tgt := 47) hx hb dX4_nearestFreeSlot_31 (by decide) (fun c31 => ?_) (fun c31 => ?_)
          · refine lv_iconst (v := 0) hx hb dX4_nearestFreeSlot_47 (by decide) ?_
            refine lv_istore (lv' := [(4, .int _), (2, .int _), (3, .int _), (0, .ref _), (1, .int _)]) hx hb dX4_nearestFreeSlot_48 hl (by decide) rfl (fun ls hl => ?_)
            refine lv_iload hx hb dX4_nearestFreeSlot_50 (lv_at hl 0 rfl) ?_
            refine lv_if_eq (tgt := 72) hx hb dX4_nearestFreeSlot_52 (by decide) (fun _ => ?_) (fun c9 => absurd (by decide) c9)
            refine lv_iinc (v := _ + (1 : Int32)) (lv' := [(3, .int _), (4, .int _), (2, .int _), (0, .ref _), (1, .int _)]) hx hb dX4_nearestFreeSlot_72 hl (k := 2) rfl rfl (by decide) rfl (fun ls hl => ?_)
            refine lv_goto (tgt := 15) hx hb dX4_nearestFreeSlot_75 (by decide) ?_
            exact ih15 _ _ (cs1 i1 c18) (cs2 c18) (csm c18 im) (Eq.trans hsp15 (Eq.trans (lp15_X4_nearestFreeSlot_s _ _ _ _ _ _) (Eq.trans (if_neg c18) (Eq.trans (if_neg c31) (rfl))))) _ (lv_sub hl [2, 0, 3, 4] rfl)
          · refine lv_aload_n hx hb dX4_nearestFreeSlot_34 rfl (lv_at hl 2 rfl) ?_
            refine lv_iload_n hx hb dX4_nearestFreeSlot_35 rfl (lv_at hl 1 rfl) ?_
            refine lv_iload_n hx hb dX4_nearestFreeSlot_36 rfl (lv_at hl 3 rfl) ?_
            refine roV CF (c_X4_bears l D cI cC cW t _ _ _ _ _ (by first | (with_reducible first | assumption | exact g20 (by assumption) (by assumption) | exact sl60 (by assumption) | exact s4 (by assumption)) | (unfold vp_in; decide))) (cwV 2 hts gX4_nearestFreeSlot_X4_bears rfl rfl rfl (by decide +kernel) ⟨Nat.le_of_ble_eq_true rfl, Nat.le_of_ble_eq_true rfl⟩) hP hK hX hS 0 3 wg_0 rfl rfl hl.1 rfl (Nat.le_of_ble_eq_true rfl) dX4_nearestFreeSlot_37 ⟨Nat.zero_le _, Nat.zero_le _⟩ ?_
            refine lv_if_eq (tgt := 47) hx hb dX4_nearestFreeSlot_40 (by decide) (fun c40 => ?_) (fun c40 => ?_)
            · refine lv_iconst (v := 0) hx hb dX4_nearestFreeSlot_47 (by decide) ?_
              refine lv_istore (lv' := [(4, .int _), (2, .int _), (3, .int _), (0, .ref _), (1, .int _)]) hx hb dX4_nearestFreeSlot_48 hl (by decide) rfl (fun ls hl => ?_)
              refine lv_iload hx hb dX4_nearestFreeSlot_50 (lv_at hl 0 rfl) ?_
              refine lv_if_eq (tgt := 72) hx hb dX4_nearestFreeSlot_52 (by decide) (fun _ => ?_) (fun c9 => absurd (by decide) c9)
              refine lv_iinc (v := _ + (1 : Int32)) (lv' := [(3, .int _), (4, .int _), (2, .int _), (0, .ref _), (1, .int _)]) hx hb dX4_nearestFreeSlot_72 hl (k := 2) rfl rfl (by decide) rfl (fun ls hl => ?_)
              refine lv_goto (tgt := 15) hx hb dX4_nearestFreeSlot_75 (by decide) ?_
              exact ih15 _ _ (cs1 i1 c18) (cs2 c18) (csm c18 im) (Eq.trans hsp15 (Eq.trans (lp15_X4_nearestFreeSlot_s _ _ _ _ _ _) (Eq.trans (if_neg c18) (Eq.trans (if_pos c31) (Eq.trans (if_pos c40) (rfl)))))) _ (lv_sub hl [2, 0, 3, 4] rfl)
            · refine lv_iconst (v := 1) hx hb dX4_nearestFreeSlot_43 (by decide) ?_
              refine lv_goto (tgt := 48) hx hb dX4_nearestFreeSlot_44 (by decide) ?_
              refine lv_istore (lv' := [(4, .int _), (2, .int _), (3, .int _), (0, .ref _), (1, .int _)]) hx hb dX4_nearestFreeSlot_48 hl (by decide) rfl (fun ls hl => ?_)
              refine lv_iload hx hb dX4_nearestFreeSlot_50 (lv_at hl 0 rfl) ?_
              refine lv_if_eq (tgt := 72) hx hb dX4_nearestFreeSlot_52 (by decide) (fun c9 => absurd c9 (by decide)) (fun _ => ?_)
              refine lv_iload_n hx hb dX4_nearestFreeSlot_55 rfl (lv_at hl 1 rfl) ?_
              refine lv_if_lt (tgt := 70) hx hb dX4_nearestFreeSlot_56 (by decide) (fun c56 => ?_) (fun c56 => ?_)
              · refine lv_iload_n hx hb dX4_nearestFreeSlot_70 rfl (lv_at hl 2 rfl) ?_
                refine lv_istore_n (lv' := [(2, .int _), (4, .int _), (3, .int _), (0, .ref _), (1, .int _)]) hx hb dX4_nearestFreeSlot_71 rfl hl (by decide) rfl (fun ls hl => ?_)
                refine lv_iinc (v := _ + (1 : Int32)) (lv' := [(3, .int _), (2, .int _), (4, .int _), (0, .ref _), (1, .int _)]) hx hb dX4_nearestFreeSlot_72 hl (k := 2) rfl rfl (by decide) rfl (fun ls hl => ?_)
                refine lv_goto (tgt := 15) hx hb dX4_nearestFreeSlot_75 (by decide) ?_
                exact ih15 _ _ (cs1 i1 c18) (cs2 c18) (csm c18 im) (Eq.trans hsp15 (Eq.trans (lp15_X4_nearestFreeSlot_s _ _ _ _ _ _) (Eq.trans (if_neg c18) (Eq.trans (if_pos c31) (Eq.trans (if_neg c40) (Eq.trans (if_pos c56) (rfl))))))) _ (lv_sub hl [1, 0, 3, 4] rfl)
              · refine lv_iload_n hx hb dX4_nearestFreeSlot_59 rfl (lv_at hl 2 rfl) ?_
                refine roS CF (c_X2_walkTo l D cI cC cW t _ ) (va_cwS 1 hts gX4_nearestFreeSlot_X2_walkTo rfl rfl rfl (by decide +kernel) ⟨Nat.le_of_ble_eq_true rfl, Nat.le_of_ble_eq_true rfl⟩) vP_nil hK hX hS rfl hl.1 rfl (Nat.le_of_ble_eq_true rfl) dX4_nearestFreeSlot_60 ⟨Nat.zero_le _, Nat.zero_le _⟩ ?_
                refine lv_iload_n hx hb dX4_nearestFreeSlot_63 rfl (lv_at hl 1 rfl) ?_
                refine roS CF (c_X2_walkTo l D cI cC cW t _ ) (va_cwS 1 hts gX4_nearestFreeSlot_X2_walkTo rfl rfl rfl (by decide +kernel) ⟨Nat.le_of_ble_eq_true rfl, Nat.le_of_ble_eq_true rfl⟩) vP_nil hK hX hS rfl hl.1 rfl (Nat.le_of_ble_eq_true rfl) dX4_nearestFreeSlot_64 ⟨Nat.zero_le _, Nat.zero_le _⟩ ?_
                refine lv_icmp_ge (tgt := 72) hx hb dX4_nearestFreeSlot_67 (by decide) (fun c67 => ?_) (fun c67 => ?_)
                · refine lv_iinc (v := _ + (1 : Int32)) (lv' := [(3, .int _), (4, .int _), (2, .int _), (0, .ref _), (1, .int _)]) hx hb dX4_nearestFreeSlot_72 hl (k := 2) rfl rfl (by decide) rfl (fun ls hl => ?_)
                  refine lv_goto (tgt := 15) hx hb dX4_nearestFreeSlot_75 (by decide) ?_
                  exact ih15 _ _ (cs1 i1 c18) (cs2 c18) (csm c18 im) (Eq.trans hsp15 (Eq.trans (lp15_X4_nearestFreeSlot_s _ _ _ _ _ _) (Eq.trans (if_neg c18) (Eq.trans (if_pos c31) (Eq.trans (if_neg c40) (Eq.trans (if_neg c56) (Eq.trans (if_pos c67) (rfl)))))))) _ (lv_sub hl [2, 0, 3, 4] rfl)
                · refine lv_iload_n hx hb dX4_nearestFreeSlot_70 rfl (lv_at hl 2 rfl) ?_
                  refine lv_istore_n (lv' := [(2, .int _), (4, .int _), (3, .int _), (0, .ref _), (1, .int _)]) hx hb dX4_nearestFreeSlot_71 rfl hl (by decide) rfl (fun ls hl => ?_)
                  refine lv_iinc (v := _ + (1 : Int32)) (lv' := [(3, .int _), (2, .int _), (4, .int _), (0, .ref _), (1, .int _)]) hx hb dX4_nearestFreeSlot_72 hl (k := 2) rfl rfl (by decide) rfl (fun ls hl => ?_)
                  refine lv_goto (tgt := 15) hx hb dX4_nearestFreeSlot_75 (by decide) ?_
                  exact ih15 _ _ (cs1 i1 c18) (cs2 c18) (csm c18 im) (Eq.trans hsp15 (Eq.trans (lp15_X4_nearestFreeSlot_s _ _ _ _ _ _) (Eq.trans (if_neg c18) (Eq.trans (if_pos c31) (Eq.trans (if_neg c40) (Eq.trans (if_neg c56) (Eq.trans (if_neg c67) (rfl)))))))) _ (lv_sub hl [1, 0, 3, 4] rfl)
    exact L15 61 _ _ (by decide) (by decide) (by decide) (Eq.trans (if_neg c5) (rfl)) _ (lv_sub hl [1, 0, 2, 3] rfl)
  · refine lv_iconst (v := -1) hx hb dX4_nearestFreeSlot_8 (by decide) ?_
    exact ro_ret hx hb hr (Eq.trans (if_pos c5) (rfl)) dX4_nearestFreeSlot_9 hlocks

def sp_X4_canGo (N : Nat → Int32) (G : Nat → Int32) (x1 x2 : Int32) : Int32 :=
  if (sp_X2_isSlot (N (22 + 11 * (ix x1)))) = 0 then ((0 : Int32)) else (if (N (22 + 11 * (ix x1))) = x2 then ((0 : Int32)) else (if (sp_X4_bears N G x2 x1) = 0 then ((0 : Int32)) else (if (sp_X4_isGood N G (G ((ix x2)))) = 0 then ((1 : Int32)) else (if (sp_X4_bears N G (N (22 + 11 * (ix x1))) (G ((ix x2)))) = 0 then ((0 : Int32)) else ((1 : Int32))))))
set_option maxHeartbeats 4000000 in
set_option maxRecDepth 100000 in
theorem c_X4_canGo (l : Launch) (D : va_G) (cI cC cW : ClassId) (t : Nat → Nat) (a : Nat → Nat) (N : Nat → Int32) (G : Nat → Int32) (x1 x2 : Int32) (hsf : sfN N) (h1 : vp_in x1 20) (h2 : vp_in x2 60) : Met l yX4_canGo wsX4_canGo ({ frames := 2, cells := 0, slots := 0, locals := 42 }) (va_Pc [.ref (a 0), .int x1, .int x2] (roP D (tyL cI cC cW) (wg cI a N G) t)) (vp_Si (fun r => r = sp_X4_canGo N G x1 x2)) 0 0 (fun _ => False) := by
  refine Met.ofW (cc := cX4_canGo) (maxL := 5) (ret := (some .boolean)) (by decide) rfl ?_
  intro p e s m args below meth c s₁ B hml hv
  obtain ⟨rfl, hP, hK, hX⟩ := hv
  have hx := B.exec
  have hb := B.bytes
  have hr := B.returns
  have hts := atoms_spec (ws := wsX4_canGo) B.pre
  have hown : s.vm.findClass RX4 = some m.cls := findClass_of_methodNamed B.named
  have hlocks := B.notSynchronized
  have hS : va_S (fun _ => False) s.heap s.heap [] := va_S.rf
  have wd1 : (Cond.fieldLink RX4 21 "PickSlots$Warehouse" "slotOfGood" "[I").before [.ref (a 0), .int x1, .int x2].toArray s = true := hts _ (List.mem_of_getElem? (i := 1) rfl)
  have wd2 : (Cond.fieldLink RX4 38 "PickSlots$Warehouse" "goodInSlot" "[I").before [.ref (a 0), .int x1, .int x2].toArray s = true := hts _ (List.mem_of_getElem? (i := 2) rfl)
  have hi4 : ∀ w ∈ wsX40, w ∈ wsX4_canGo := fun w h => List.mem_cons_of_mem _ (List.mem_append_right _ (h))
  have CF : CallFix p m c cX4_canGo 5 s [.ref (a 0), .int x1, .int x2].toArray wsX4_canGo RX4 := ⟨hx, hb, hml, hown, hts⟩
  have hl := lv_entry ([.ref (a 0), .int x1, .int x2]) (n := 5) (Nat.le_of_ble_eq_true rfl)
  rw [lg_entry_eq]
  generalize (lg_sl ([.ref (a 0), .int x1, .int x2]) ++ List.replicate (5 - (lg_sl ([.ref (a 0), .int x1, .int x2])).length) Slot.unset).toArray = ls at hl ⊢
  have hl : lv_has ls 5 [(0, .ref (a 0)), (1, .int x1), (2, .int x2)] := hl
  refine lv_aload_n hx hb dX4_canGo_0 rfl (lv_at hl 0 rfl) ?_
  refine va_get (D := D) (ci := 3) (C := RX4) (T := TX4) (N := 13) hx hb hts hi4 hown hK hP 0 wg_0 rfl 3 (by decide) wd1 (fun _ h9 => h9) rfl dX4_canGo_1 ?_
  refine lv_iload_n hx hb dX4_canGo_4 rfl (lv_at hl 1 rfl) ?_
  refine va_iald hx hb hK hP 4 0 wg_4 rfl (by first | (with_reducible first | assumption | exact g20 (by assumption) (by assumption) | exact sl60 (by assumption) | exact s4 (by assumption)) | (unfold vp_in; decide)) dX4_canGo_5 ?_
  refine lv_istore_n (lv' := [(3, .int _), (0, .ref _), (1, .int _), (2, .int _)]) hx hb dX4_canGo_6 rfl hl (by decide) rfl (fun ls hl => ?_)
  refine lv_iload_n hx hb dX4_canGo_7 rfl (lv_at hl 0 rfl) ?_
  refine roS CF (c_X2_isSlot l D cI cC cW t _ ) (va_cwS 1 hts gX4_canGo_X2_isSlot rfl rfl rfl (by decide +kernel) ⟨Nat.le_of_ble_eq_true rfl, Nat.le_of_ble_eq_true rfl⟩) vP_nil hK hX hS rfl hl.1 rfl (Nat.le_of_ble_eq_true rfl) dX4_canGo_8 ⟨Nat.zero_le _, Nat.zero_le _⟩ ?_
  refine lv_if_eq (tgt := 28) hx hb dX4_canGo_11 (by decide) (fun c11 => ?_) (fun c11 => ?_)
  · refine lv_iconst (v := 0) hx hb dX4_canGo_28 (by decide) ?_
    exact ro_zret hx hb hr (rfl) (Eq.trans (if_pos c11) (rfl)) dX4_canGo_29 hlocks
  · refine lv_iload_n hx hb dX4_canGo_14 rfl (lv_at hl 0 rfl) ?_
    refine lv_iload_n hx hb dX4_canGo_15 rfl (lv_at hl 3 rfl) ?_
    refine lv_icmp_eq (tgt := 28) hx hb dX4_canGo_16 (by decide) (fun c16 => ?_) (fun c16 => ?_)
    · refine lv_iconst (v := 0) hx hb dX4_canGo_28 (by decide) ?_
      exact ro_zret hx hb hr (rfl) (Eq.trans (if_neg c11) (Eq.trans (if_pos c16) (rfl))) dX4_canGo_29 hlocks
    · refine lv_aload_n hx hb dX4_canGo_19 rfl (lv_at hl 1 rfl) ?_
      refine lv_iload_n hx hb dX4_canGo_20 rfl (lv_at hl 3 rfl) ?_
      refine lv_iload_n hx hb dX4_canGo_21 rfl (lv_at hl 2 rfl) ?_
      refine roV CF (c_X4_bears l D cI cC cW t _ _ _ _ _ (by first | (with_reducible first | assumption | exact g20 (by assumption) (by assumption) | exact sl60 (by assumption) | exact s4 (by assumption)) | (unfold vp_in; decide))) (cwV 2 hts gX4_canGo_X4_bears rfl rfl rfl (by decide +kernel) ⟨Nat.le_of_ble_eq_true rfl, Nat.le_of_ble_eq_true rfl⟩) hP hK hX hS 0 3 wg_0 rfl rfl hl.1 rfl (Nat.le_of_ble_eq_true rfl) dX4_canGo_22 ⟨Nat.zero_le _, Nat.zero_le _⟩ ?_
      refine lv_if_ne (tgt := 30) hx hb dX4_canGo_25 (by decide) (fun c25 => ?_) (fun c25 => ?_)
      · refine lv_aload_n hx hb dX4_canGo_30 rfl (lv_at hl 1 rfl) ?_
        refine va_get (D := D) (ci := 3) (C := RX4) (T := TX4) (N := 13) hx hb hts hi4 hown hK hP 0 wg_0 rfl 8 (by decide) wd2 (fun _ h9 => h9) rfl dX4_canGo_31 ?_
        refine lv_iload_n hx hb dX4_canGo_34 rfl (lv_at hl 3 rfl) ?_
        refine va_iald hx hb hK hP 9 0 wg_9 rfl (by first | (with_reducible first | assumption | exact g20 (by assumption) (by assumption) | exact sl60 (by assumption) | exact s4 (by assumption)) | (unfold vp_in; decide)) dX4_canGo_35 ?_
        refine lv_istore (lv' := [(4, .int _), (3, .int _), (0, .ref _), (1, .int _), (2, .int _)]) hx hb dX4_canGo_36 hl (by decide) rfl (fun ls hl => ?_)
        refine lv_aload_n hx hb dX4_canGo_38 rfl (lv_at hl 2 rfl) ?_
        refine lv_iload hx hb dX4_canGo_39 (lv_at hl 0 rfl) ?_
        refine roV CF (c_X4_isGood l D cI cC cW t _ _ _ _ ) (cwV 1 hts gX4_canGo_X4_isGood rfl rfl rfl (by decide +kernel) ⟨Nat.le_of_ble_eq_true rfl, Nat.le_of_ble_eq_true rfl⟩) hP hK hX hS 0 3 wg_0 rfl rfl hl.1 rfl (Nat.le_of_ble_eq_true rfl) dX4_canGo_41 ⟨Nat.zero_le _, Nat.zero_le _⟩ ?_
        refine lv_if_eq (tgt := 57) hx hb dX4_canGo_44 (by decide) (fun c44 => ?_) (fun c44 => ?_)
        · refine lv_iconst (v := 1) hx hb dX4_canGo_57 (by decide) ?_
          refine lv_goto (tgt := 62) hx hb dX4_canGo_58 (by decide) ?_
          exact ro_zret hx hb hr (rfl) (Eq.trans (if_neg c11) (Eq.trans (if_neg c16) (Eq.trans (if_neg c25) (Eq.trans (if_pos c44) (rfl))))) dX4_canGo_62 hlocks
        · refine lv_aload_n hx hb dX4_canGo_47 rfl (lv_at hl 2 rfl) ?_
          refine lv_iload_n hx hb dX4_canGo_48 rfl (lv_at hl 1 rfl) ?_
          refine lv_iload hx hb dX4_canGo_49 (lv_at hl 0 rfl) ?_
          refine roV CF (c_X4_bears l D cI cC cW t _ _ _ _ _ (by first | (with_reducible first | assumption | exact g20 (by assumption) (by assumption) | exact sl60 (by assumption) | exact s4 (by assumption)) | (unfold vp_in; decide))) (cwV 2 hts gX4_canGo_X4_bears rfl rfl rfl (by decide +kernel) ⟨Nat.le_of_ble_eq_true rfl, Nat.le_of_ble_eq_true rfl⟩) hP hK hX hS 0 3 wg_0 rfl rfl hl.1 rfl (Nat.le_of_ble_eq_true rfl) dX4_canGo_51 ⟨Nat.zero_le _, Nat.zero_le _⟩ ?_
          refine lv_if_eq (tgt := 61) hx hb dX4_canGo_54 (by decide) (fun c54 => ?_) (fun c54 => ?_)
          · refine lv_iconst (v := 0) hx hb dX4_canGo_61 (by decide) ?_
            exact ro_zret hx hb hr (rfl) (Eq.trans (if_neg c11) (Eq.trans (if_neg c16) (Eq.trans (if_neg c25) (Eq.trans (if_neg c44) (Eq.trans (if_pos c54) (rfl)))))) dX4_canGo_62 hlocks
          · refine lv_iconst (v := 1) hx hb dX4_canGo_57 (by decide) ?_
            refine lv_goto (tgt := 62) hx hb dX4_canGo_58 (by decide) ?_
            exact ro_zret hx hb hr (rfl) (Eq.trans (if_neg c11) (Eq.trans (if_neg c16) (Eq.trans (if_neg c25) (Eq.trans (if_neg c44) (Eq.trans (if_neg c54) (rfl)))))) dX4_canGo_62 hlocks
      · refine lv_iconst (v := 0) hx hb dX4_canGo_28 (by decide) ?_
        exact ro_zret hx hb hr (rfl) (Eq.trans (if_neg c11) (Eq.trans (if_neg c16) (Eq.trans (if_pos c25) (rfl)))) dX4_canGo_29 hlocks
theorem zb_X4_canGo {N : Nat → Int32} {G : Nat → Int32} {x1 x2 : Int32} : narrow .boolean (.int (sp_X4_canGo N G x1 x2)) = .int (sp_X4_canGo N G x1 x2) := by
  unfold sp_X4_canGo
  (repeat' split) <;> first | (with_reducible exact zb_X2_isSlot) | (with_reducible exact zb_X4_bears) | (with_reducible exact zb_X4_isGood) | rfl

def sp_X4_savedByGoing (N : Nat → Int32) (G : Nat → Int32) (x1 x2 : Int32) : Int32 :=
  if (sp_X4_isGood N G (G ((ix x2)))) = 0 then (((sp_X4_demandOf N G x1 (sp_X4_presentSeason N G)) * ((sp_X2_walkTo (N (22 + 11 * (ix x1)))) - (sp_X2_walkTo x2)))) else ((((sp_X4_demandOf N G x1 (sp_X4_presentSeason N G)) - (sp_X4_demandOf N G (G ((ix x2))) (sp_X4_presentSeason N G))) * ((sp_X2_walkTo (N (22 + 11 * (ix x1)))) - (sp_X2_walkTo x2))))
set_option maxHeartbeats 4000000 in
set_option maxRecDepth 100000 in
theorem c_X4_savedByGoing (l : Launch) (D : va_G) (cI cC cW : ClassId) (t : Nat → Nat) (a : Nat → Nat) (N : Nat → Int32) (G : Nat → Int32) (x1 x2 : Int32) (hsf : sfN N) (h1 : vp_in x1 20) (h2 : vp_in x2 60) : Met l yX4_savedByGoing wsX4_savedByGoing ({ frames := 1, cells := 0, slots := 0, locals := 22 }) (va_Pc [.ref (a 0), .int x1, .int x2] (roP D (tyL cI cC cW) (wg cI a N G) t)) (vp_Si (fun r => r = sp_X4_savedByGoing N G x1 x2)) 0 0 (fun _ => False) := by
  refine Met.ofW (cc := cX4_savedByGoing) (maxL := 5) (ret := (some .int)) (by decide) rfl ?_
  intro p e s m args below meth c s₁ B hml hv
  obtain ⟨rfl, hP, hK, hX⟩ := hv
  have hx := B.exec
  have hb := B.bytes
  have hr := B.returns
  have hts := atoms_spec (ws := wsX4_savedByGoing) B.pre
  have hown : s.vm.findClass RX4 = some m.cls := findClass_of_methodNamed B.named
  have hlocks := B.notSynchronized
  have hS : va_S (fun _ => False) s.heap s.heap [] := va_S.rf
  have wd1 : (Cond.fieldLink RX4 38 "PickSlots$Warehouse" "goodInSlot" "[I").before [.ref (a 0), .int x1, .int x2].toArray s = true := hts _ (List.mem_of_getElem? (i := 1) rfl)
  have wd2 : (Cond.fieldLink RX4 21 "PickSlots$Warehouse" "slotOfGood" "[I").before [.ref (a 0), .int x1, .int x2].toArray s = true := hts _ (List.mem_of_getElem? (i := 2) rfl)
  have hi4 : ∀ w ∈ wsX40, w ∈ wsX4_savedByGoing := fun w h => List.mem_cons_of_mem _ (List.mem_append_right _ (h))
  have CF : CallFix p m c cX4_savedByGoing 5 s [.ref (a 0), .int x1, .int x2].toArray wsX4_savedByGoing RX4 := ⟨hx, hb, hml, hown, hts⟩
  have hl := lv_entry ([.ref (a 0), .int x1, .int x2]) (n := 5) (Nat.le_of_ble_eq_true rfl)
  rw [lg_entry_eq]
  generalize (lg_sl ([.ref (a 0), .int x1, .int x2]) ++ List.replicate (5 - (lg_sl ([.ref (a 0), .int x1, .int x2])).length) Slot.unset).toArray = ls at hl ⊢
  have hl : lv_has ls 5 [(0, .ref (a 0)), (1, .int x1), (2, .int x2)] := hl
  refine lv_aload_n hx hb dX4_savedByGoing_0 rfl (lv_at hl 0 rfl) ?_
  refine lv_iload_n hx hb dX4_savedByGoing_1 rfl (lv_at hl 1 rfl) ?_
  refine lv_aload_n hx hb dX4_savedByGoing_2 rfl (lv_at hl 0 rfl) ?_
  refine roV CF (c_X4_presentSeason l D cI cC cW t _ _ _  ) (cwV 0 hts gX4_savedByGoing_X4_presentSeason rfl rfl rfl (by decide +kernel) ⟨Nat.le_of_ble_eq_true rfl, Nat.le_of_ble_eq_true rfl⟩) hP hK hX hS 0 3 wg_0 rfl rfl hl.1 rfl (Nat.le_of_ble_eq_true rfl) dX4_savedByGoing_3 ⟨Nat.zero_le _, Nat.zero_le _⟩ ?_
  refine roV CF (c_X4_demandOf l D cI cC cW t _ _ _ _ _ (by first | (with_reducible first | assumption | exact g20 (by assumption) (by assumption) | exact sl60 (by assumption) | exact s4 (by assumption)) | (unfold vp_in; decide)) (by first | (with_reducible first | assumption | exact g20 (by assumption) (by assumption) | exact sl60 (by assumption) | exact s4 (by assumption)) | (unfold vp_in; decide))) (cwV 2 hts gX4_savedByGoing_X4_demandOf rfl rfl rfl (by decide +kernel) ⟨Nat.le_of_ble_eq_true rfl, Nat.le_of_ble_eq_true rfl⟩) hP hK hX hS 0 3 wg_0 rfl rfl hl.1 rfl (Nat.le_of_ble_eq_true rfl) dX4_savedByGoing_6 ⟨Nat.zero_le _, Nat.zero_le _⟩ ?_
  refine lv_istore_n (lv' := [(3, .int _), (0, .ref _), (1, .int _), (2, .int _)]) hx hb dX4_savedByGoing_9 rfl hl (by decide) rfl (fun ls hl => ?_)
  refine lv_aload_n hx hb dX4_savedByGoing_10 rfl (lv_at hl 1 rfl) ?_
  refine va_get (D := D) (ci := 3) (C := RX4) (T := TX4) (N := 13) hx hb hts hi4 hown hK hP 0 wg_0 rfl 8 (by decide) wd1 (fun _ h9 => h9) rfl dX4_savedByGoing_11 ?_
  refine lv_iload_n hx hb dX4_savedByGoing_14 rfl (lv_at hl 3 rfl) ?_
  refine va_iald hx hb hK hP 9 0 wg_9 rfl (by first | (with_reducible first | assumption | exact g20 (by assumption) (by assumption) | exact sl60 (by assumption) | exact s4 (by assumption)) | (unfold vp_in; decide)) dX4_savedByGoing_15 ?_
  refine lv_istore (lv' := [(4, .int _), (3, .int _), (0, .ref _), (1, .int _), (2, .int _)]) hx hb dX4_savedByGoing_16 hl (by decide) rfl (fun ls hl => ?_)
  refine lv_aload_n hx hb dX4_savedByGoing_18 rfl (lv_at hl 2 rfl) ?_
  refine lv_iload hx hb dX4_savedByGoing_19 (lv_at hl 0 rfl) ?_
  refine roV CF (c_X4_isGood l D cI cC cW t _ _ _ _ ) (cwV 1 hts gX4_savedByGoing_X4_isGood rfl rfl rfl (by decide +kernel) ⟨Nat.le_of_ble_eq_true rfl, Nat.le_of_ble_eq_true rfl⟩) hP hK hX hS 0 3 wg_0 rfl rfl hl.1 rfl (Nat.le_of_ble_eq_true rfl) dX4_savedByGoing_21 ⟨Nat.zero_le _, Nat.zero_le _⟩ ?_
  refine lv_if_eq (tgt := 40) hx hb dX4_savedByGoing_24 (by decide) (fun c24 => ?_) (fun c24 => ?_)
  · refine lv_iload_n hx hb dX4_savedByGoing_40 rfl (lv_at hl 1 rfl) ?_
    refine lv_aload_n hx hb dX4_savedByGoing_41 rfl (lv_at hl 2 rfl) ?_
    refine va_get (D := D) (ci := 3) (C := RX4) (T := TX4) (N := 13) hx hb hts hi4 hown hK hP 0 wg_0 rfl 3 (by decide) wd2 (fun _ h9 => h9) rfl dX4_savedByGoing_42 ?_
    refine lv_iload_n hx hb dX4_savedByGoing_45 rfl (lv_at hl 3 rfl) ?_
    refine va_iald hx hb hK hP 4 0 wg_4 rfl (by first | (with_reducible first | assumption | exact g20 (by assumption) (by assumption) | exact sl60 (by assumption) | exact s4 (by assumption)) | (unfold vp_in; decide)) dX4_savedByGoing_46 ?_
    refine roS CF (c_X2_walkTo l D cI cC cW t _ ) (va_cwS 1 hts gX4_savedByGoing_X2_walkTo rfl rfl rfl (by decide +kernel) ⟨Nat.le_of_ble_eq_true rfl, Nat.le_of_ble_eq_true rfl⟩) vP_nil hK hX hS rfl hl.1 rfl (Nat.le_of_ble_eq_true rfl) dX4_savedByGoing_47 ⟨Nat.zero_le _, Nat.zero_le _⟩ ?_
    refine lv_iload_n hx hb dX4_savedByGoing_50 rfl (lv_at hl 4 rfl) ?_
    refine roS CF (c_X2_walkTo l D cI cC cW t _ ) (va_cwS 1 hts gX4_savedByGoing_X2_walkTo rfl rfl rfl (by decide +kernel) ⟨Nat.le_of_ble_eq_true rfl, Nat.le_of_ble_eq_true rfl⟩) vP_nil hK hX hS rfl hl.1 rfl (Nat.le_of_ble_eq_true rfl) dX4_savedByGoing_51 ⟨Nat.zero_le _, Nat.zero_le _⟩ ?_
    refine lv_isub hx hb dX4_savedByGoing_54 ?_
    refine lv_imul hx hb dX4_savedByGoing_55 ?_
    exact ro_ret hx hb hr (Eq.trans (if_pos c24) (rfl)) dX4_savedByGoing_56 hlocks
  · refine lv_iload_n hx hb dX4_savedByGoing_27 rfl (lv_at hl 1 rfl) ?_
    refine lv_aload_n hx hb dX4_savedByGoing_28 rfl (lv_at hl 2 rfl) ?_
    refine lv_iload hx hb dX4_savedByGoing_29 (lv_at hl 0 rfl) ?_
    refine lv_aload_n hx hb dX4_savedByGoing_31 rfl (lv_at hl 2 rfl) ?_
    refine roV CF (c_X4_presentSeason l D cI cC cW t _ _ _  ) (cwV 0 hts gX4_savedByGoing_X4_presentSeason rfl rfl rfl (by decide +kernel) ⟨Nat.le_of_ble_eq_true rfl, Nat.le_of_ble_eq_true rfl⟩) hP hK hX hS 0 3 wg_0 rfl rfl hl.1 rfl (Nat.le_of_ble_eq_true rfl) dX4_savedByGoing_32 ⟨Nat.zero_le _, Nat.zero_le _⟩ ?_
    refine roV CF (c_X4_demandOf l D cI cC cW t _ _ _ _ _ (by first | (with_reducible first | assumption | exact g20 (by assumption) (by assumption) | exact sl60 (by assumption) | exact s4 (by assumption)) | (unfold vp_in; decide)) (by first | (with_reducible first | assumption | exact g20 (by assumption) (by assumption) | exact sl60 (by assumption) | exact s4 (by assumption)) | (unfold vp_in; decide))) (cwV 2 hts gX4_savedByGoing_X4_demandOf rfl rfl rfl (by decide +kernel) ⟨Nat.le_of_ble_eq_true rfl, Nat.le_of_ble_eq_true rfl⟩) hP hK hX hS 0 3 wg_0 rfl rfl hl.1 rfl (Nat.le_of_ble_eq_true rfl) dX4_savedByGoing_35 ⟨Nat.zero_le _, Nat.zero_le _⟩ ?_
    refine lv_isub hx hb dX4_savedByGoing_38 ?_
    refine lv_istore_n (lv' := [(3, .int _), (4, .int _), (0, .ref _), (1, .int _), (2, .int _)]) hx hb dX4_savedByGoing_39 rfl hl (by decide) rfl (fun ls hl => ?_)
    refine lv_iload_n hx hb dX4_savedByGoing_40 rfl (lv_at hl 0 rfl) ?_
    refine lv_aload_n hx hb dX4_savedByGoing_41 rfl (lv_at hl 2 rfl) ?_
    refine va_get (D := D) (ci := 3) (C := RX4) (T := TX4) (N := 13) hx hb hts hi4 hown hK hP 0 wg_0 rfl 3 (by decide) wd2 (fun _ h9 => h9) rfl dX4_savedByGoing_42 ?_
    refine lv_iload_n hx hb dX4_savedByGoing_45 rfl (lv_at hl 3 rfl) ?_
    refine va_iald hx hb hK hP 4 0 wg_4 rfl (by first | (with_reducible first | assumption | exact g20 (by assumption) (by assumption) | exact sl60 (by assumption) | exact s4 (by assumption)) | (unfold vp_in; decide)) dX4_savedByGoing_46 ?_
    refine roS CF (c_X2_walkTo l D cI cC cW t _ ) (va_cwS 1 hts gX4_savedByGoing_X2_walkTo rfl rfl rfl (by decide +kernel) ⟨Nat.le_of_ble_eq_true rfl, Nat.le_of_ble_eq_true rfl⟩) vP_nil hK hX hS rfl hl.1 rfl (Nat.le_of_ble_eq_true rfl) dX4_savedByGoing_47 ⟨Nat.zero_le _, Nat.zero_le _⟩ ?_
    refine lv_iload_n hx hb dX4_savedByGoing_50 rfl (lv_at hl 4 rfl) ?_
    refine roS CF (c_X2_walkTo l D cI cC cW t _ ) (va_cwS 1 hts gX4_savedByGoing_X2_walkTo rfl rfl rfl (by decide +kernel) ⟨Nat.le_of_ble_eq_true rfl, Nat.le_of_ble_eq_true rfl⟩) vP_nil hK hX hS rfl hl.1 rfl (Nat.le_of_ble_eq_true rfl) dX4_savedByGoing_51 ⟨Nat.zero_le _, Nat.zero_le _⟩ ?_
    refine lv_isub hx hb dX4_savedByGoing_54 ?_
    refine lv_imul hx hb dX4_savedByGoing_55 ?_
    exact ro_ret hx hb hr (Eq.trans (if_neg c24) (rfl)) dX4_savedByGoing_56 hlocks

def sp_X4_walkOfGoing (N : Nat → Int32) (G : Nat → Int32) (x1 x2 : Int32) : Int32 :=
  if (sp_X4_isGood N G (G ((ix x2)))) = 0 then ((((sp_X2_wayBetween (N (22 + 11 * (ix x1))) x2) + (N (16 + 11 * (ix x1)))) + (0 : Int32))) else ((((sp_X2_wayBetween (N (22 + 11 * (ix x1))) x2) + (N (16 + 11 * (ix x1)))) + ((sp_X2_wayBetween (N (22 + 11 * (ix x1))) x2) + (N (16 + 11 * (ix (G ((ix x2)))))))))
set_option maxHeartbeats 4000000 in
set_option maxRecDepth 100000 in
theorem c_X4_walkOfGoing (l : Launch) (D : va_G) (cI cC cW : ClassId) (t : Nat → Nat) (a : Nat → Nat) (N : Nat → Int32) (G : Nat → Int32) (x1 x2 : Int32) (hsf : sfN N) (h1 : vp_in x1 20) (h2 : vp_in x2 60) : Met l yX4_walkOfGoing wsX4_walkOfGoing ({ frames := 2, cells := 0, slots := 0, locals := 35 }) (va_Pc [.ref (a 0), .int x1, .int x2] (roP D (tyL cI cC cW) (wg cI a N G) t)) (vp_Si (fun r => r = sp_X4_walkOfGoing N G x1 x2)) 0 0 (fun _ => False) := by
  refine Met.ofW (cc := cX4_walkOfGoing) (maxL := 6) (ret := (some .int)) (by decide) rfl ?_
  intro p e s m args below meth c s₁ B hml hv
  obtain ⟨rfl, hP, hK, hX⟩ := hv
  have hx := B.exec
  have hb := B.bytes
  have hr := B.returns
  have hts := atoms_spec (ws := wsX4_walkOfGoing) B.pre
  have hown : s.vm.findClass RX4 = some m.cls := findClass_of_methodNamed B.named
  have hlocks := B.notSynchronized
  have hS : va_S (fun _ => False) s.heap s.heap [] := va_S.rf
  have wd1 : (Cond.fieldLink RX4 21 "PickSlots$Warehouse" "slotOfGood" "[I").before [.ref (a 0), .int x1, .int x2].toArray s = true := hts _ (List.mem_of_getElem? (i := 1) rfl)
  have wd2 : (Cond.fieldLink RX4 38 "PickSlots$Warehouse" "goodInSlot" "[I").before [.ref (a 0), .int x1, .int x2].toArray s = true := hts _ (List.mem_of_getElem? (i := 2) rfl)
  have wd3 : (Cond.fieldLink RX4 9 "PickSlots$Warehouse" "weights" "[I").before [.ref (a 0), .int x1, .int x2].toArray s = true := hts _ (List.mem_of_getElem? (i := 3) rfl)
  have hi4 : ∀ w ∈ wsX40, w ∈ wsX4_walkOfGoing := fun w h => List.mem_cons_of_mem _ (List.mem_append_right _ (h))
  have CF : CallFix p m c cX4_walkOfGoing 6 s [.ref (a 0), .int x1, .int x2].toArray wsX4_walkOfGoing RX4 := ⟨hx, hb, hml, hown, hts⟩
  have hl := lv_entry ([.ref (a 0), .int x1, .int x2]) (n := 6) (Nat.le_of_ble_eq_true rfl)
  rw [lg_entry_eq]
  generalize (lg_sl ([.ref (a 0), .int x1, .int x2]) ++ List.replicate (6 - (lg_sl ([.ref (a 0), .int x1, .int x2])).length) Slot.unset).toArray = ls at hl ⊢
  have hl : lv_has ls 6 [(0, .ref (a 0)), (1, .int x1), (2, .int x2)] := hl
  refine lv_aload_n hx hb dX4_walkOfGoing_0 rfl (lv_at hl 0 rfl) ?_
  refine va_get (D := D) (ci := 3) (C := RX4) (T := TX4) (N := 13) hx hb hts hi4 hown hK hP 0 wg_0 rfl 3 (by decide) wd1 (fun _ h9 => h9) rfl dX4_walkOfGoing_1 ?_
  refine lv_iload_n hx hb dX4_walkOfGoing_4 rfl (lv_at hl 1 rfl) ?_
  refine va_iald hx hb hK hP 4 0 wg_4 rfl (by first | (with_reducible first | assumption | exact g20 (by assumption) (by assumption) | exact sl60 (by assumption) | exact s4 (by assumption)) | (unfold vp_in; decide)) dX4_walkOfGoing_5 ?_
  refine lv_iload_n hx hb dX4_walkOfGoing_6 rfl (lv_at hl 2 rfl) ?_
  refine roS CF (c_X2_wayBetween l D cI cC cW t _ _ ) (va_cwS 2 hts gX4_walkOfGoing_X2_wayBetween rfl rfl rfl (by decide +kernel) ⟨Nat.le_of_ble_eq_true rfl, Nat.le_of_ble_eq_true rfl⟩) vP_nil hK hX hS rfl hl.1 rfl (Nat.le_of_ble_eq_true rfl) dX4_walkOfGoing_7 ⟨Nat.zero_le _, Nat.zero_le _⟩ ?_
  refine lv_istore_n (lv' := [(3, .int _), (0, .ref _), (1, .int _), (2, .int _)]) hx hb dX4_walkOfGoing_10 rfl hl (by decide) rfl (fun ls hl => ?_)
  refine lv_aload_n hx hb dX4_walkOfGoing_11 rfl (lv_at hl 1 rfl) ?_
  refine va_get (D := D) (ci := 3) (C := RX4) (T := TX4) (N := 13) hx hb hts hi4 hown hK hP 0 wg_0 rfl 8 (by decide) wd2 (fun _ h9 => h9) rfl dX4_walkOfGoing_12 ?_
  refine lv_iload_n hx hb dX4_walkOfGoing_15 rfl (lv_at hl 3 rfl) ?_
  refine va_iald hx hb hK hP 9 0 wg_9 rfl (by first | (with_reducible first | assumption | exact g20 (by assumption) (by assumption) | exact sl60 (by assumption) | exact s4 (by assumption)) | (unfold vp_in; decide)) dX4_walkOfGoing_16 ?_
  refine lv_istore (lv' := [(4, .int _), (3, .int _), (0, .ref _), (1, .int _), (2, .int _)]) hx hb dX4_walkOfGoing_17 hl (by decide) rfl (fun ls hl => ?_)
  refine lv_aload_n hx hb dX4_walkOfGoing_19 rfl (lv_at hl 2 rfl) ?_
  refine lv_iload hx hb dX4_walkOfGoing_20 (lv_at hl 0 rfl) ?_
  refine roV CF (c_X4_isGood l D cI cC cW t _ _ _ _ ) (cwV 1 hts gX4_walkOfGoing_X4_isGood rfl rfl rfl (by decide +kernel) ⟨Nat.le_of_ble_eq_true rfl, Nat.le_of_ble_eq_true rfl⟩) hP hK hX hS 0 3 wg_0 rfl rfl hl.1 rfl (Nat.le_of_ble_eq_true rfl) dX4_walkOfGoing_22 ⟨Nat.zero_le _, Nat.zero_le _⟩ ?_
  refine lv_if_eq (tgt := 40) hx hb dX4_walkOfGoing_25 (by decide) (fun c25 => ?_) (fun c25 => ?_)
  · refine lv_iconst (v := 0) hx hb dX4_walkOfGoing_40 (by decide) ?_
    refine lv_istore (lv' := [(5, .int _), (4, .int _), (3, .int _), (0, .ref _), (1, .int _), (2, .int _)]) hx hb dX4_walkOfGoing_41 hl (by decide) rfl (fun ls hl => ?_)
    refine lv_iload_n hx hb dX4_walkOfGoing_43 rfl (lv_at hl 2 rfl) ?_
    refine lv_aload_n hx hb dX4_walkOfGoing_44 rfl (lv_at hl 3 rfl) ?_
    refine va_get (D := D) (ci := 3) (C := RX4) (T := TX4) (N := 13) hx hb hts hi4 hown hK hP 0 wg_0 rfl 0 (by decide) wd3 (fun _ h9 => h9) rfl dX4_walkOfGoing_45 ?_
    refine lv_iload_n hx hb dX4_walkOfGoing_48 rfl (lv_at hl 4 rfl) ?_
    refine va_iald hx hb hK hP 1 0 wg_1 rfl (by first | (with_reducible first | assumption | exact g20 (by assumption) (by assumption) | exact sl60 (by assumption) | exact s4 (by assumption)) | (unfold vp_in; decide)) dX4_walkOfGoing_49 ?_
    refine lv_iadd hx hb dX4_walkOfGoing_50 ?_
    refine lv_iload hx hb dX4_walkOfGoing_51 (lv_at hl 0 rfl) ?_
    refine lv_iadd hx hb dX4_walkOfGoing_53 ?_
    exact ro_ret hx hb hr (Eq.trans (if_pos c25) (rfl)) dX4_walkOfGoing_54 hlocks
  · refine lv_iload_n hx hb dX4_walkOfGoing_28 rfl (lv_at hl 1 rfl) ?_
    refine lv_aload_n hx hb dX4_walkOfGoing_29 rfl (lv_at hl 2 rfl) ?_
    refine va_get (D := D) (ci := 3) (C := RX4) (T := TX4) (N := 13) hx hb hts hi4 hown hK hP 0 wg_0 rfl 0 (by decide) wd3 (fun _ h9 => h9) rfl dX4_walkOfGoing_30 ?_
    refine lv_iload hx hb dX4_walkOfGoing_33 (lv_at hl 0 rfl) ?_
    refine va_iald hx hb hK hP 1 0 wg_1 rfl (by first | (with_reducible first | assumption | exact g20 (by assumption) (by assumption) | exact sl60 (by assumption) | exact s4 (by assumption)) | (unfold vp_in; decide)) dX4_walkOfGoing_35 ?_
    refine lv_iadd hx hb dX4_walkOfGoing_36 ?_
    refine lv_goto (tgt := 41) hx hb dX4_walkOfGoing_37 (by decide) ?_
    refine lv_istore (lv' := [(5, .int _), (4, .int _), (3, .int _), (0, .ref _), (1, .int _), (2, .int _)]) hx hb dX4_walkOfGoing_41 hl (by decide) rfl (fun ls hl => ?_)
    refine lv_iload_n hx hb dX4_walkOfGoing_43 rfl (lv_at hl 2 rfl) ?_
    refine lv_aload_n hx hb dX4_walkOfGoing_44 rfl (lv_at hl 3 rfl) ?_
    refine va_get (D := D) (ci := 3) (C := RX4) (T := TX4) (N := 13) hx hb hts hi4 hown hK hP 0 wg_0 rfl 0 (by decide) wd3 (fun _ h9 => h9) rfl dX4_walkOfGoing_45 ?_
    refine lv_iload_n hx hb dX4_walkOfGoing_48 rfl (lv_at hl 4 rfl) ?_
    refine va_iald hx hb hK hP 1 0 wg_1 rfl (by first | (with_reducible first | assumption | exact g20 (by assumption) (by assumption) | exact sl60 (by assumption) | exact s4 (by assumption)) | (unfold vp_in; decide)) dX4_walkOfGoing_49 ?_
    refine lv_iadd hx hb dX4_walkOfGoing_50 ?_
    refine lv_iload hx hb dX4_walkOfGoing_51 (lv_at hl 0 rfl) ?_
    refine lv_iadd hx hb dX4_walkOfGoing_53 ?_
    exact ro_ret hx hb hr (Eq.trans (if_neg c25) (rfl)) dX4_walkOfGoing_54 hlocks

def sp_X4_worthOfGoing (N : Nat → Int32) (G : Nat → Int32) (x1 x2 : Int32) : Int32 :=
  (((sp_X4_savedByGoing N G x1 x2) * (sp_X4_weeksLeft N G)) - (sp_X4_walkOfGoing N G x1 x2))
set_option maxHeartbeats 4000000 in
set_option maxRecDepth 100000 in
theorem c_X4_worthOfGoing (l : Launch) (D : va_G) (cI cC cW : ClassId) (t : Nat → Nat) (a : Nat → Nat) (N : Nat → Int32) (G : Nat → Int32) (x1 x2 : Int32) (hsf : sfN N) (h1 : vp_in x1 20) (h2 : vp_in x2 60) : Met l yX4_worthOfGoing wsX4_worthOfGoing ({ frames := 3, cells := 0, slots := 0, locals := 60 }) (va_Pc [.ref (a 0), .int x1, .int x2] (roP D (tyL cI cC cW) (wg cI a N G) t)) (vp_Si (fun r => r = sp_X4_worthOfGoing N G x1 x2)) 0 0 (fun _ => False) := by
  refine Met.ofW (cc := cX4_worthOfGoing) (maxL := 3) (ret := (some .int)) (by decide) rfl ?_
  intro p e s m args below meth c s₁ B hml hv
  obtain ⟨rfl, hP, hK, hX⟩ := hv
  have hx := B.exec
  have hb := B.bytes
  have hr := B.returns
  have hts := atoms_spec (ws := wsX4_worthOfGoing) B.pre
  have hown : s.vm.findClass RX4 = some m.cls := findClass_of_methodNamed B.named
  have hlocks := B.notSynchronized
  have hS : va_S (fun _ => False) s.heap s.heap [] := va_S.rf
  have CF : CallFix p m c cX4_worthOfGoing 3 s [.ref (a 0), .int x1, .int x2].toArray wsX4_worthOfGoing RX4 := ⟨hx, hb, hml, hown, hts⟩
  have hl := lv_entry ([.ref (a 0), .int x1, .int x2]) (n := 3) (Nat.le_of_ble_eq_true rfl)
  rw [lg_entry_eq]
  generalize (lg_sl ([.ref (a 0), .int x1, .int x2]) ++ List.replicate (3 - (lg_sl ([.ref (a 0), .int x1, .int x2])).length) Slot.unset).toArray = ls at hl ⊢
  have hl : lv_has ls 3 [(0, .ref (a 0)), (1, .int x1), (2, .int x2)] := hl
  refine lv_aload_n hx hb dX4_worthOfGoing_0 rfl (lv_at hl 0 rfl) ?_
  refine lv_iload_n hx hb dX4_worthOfGoing_1 rfl (lv_at hl 1 rfl) ?_
  refine lv_iload_n hx hb dX4_worthOfGoing_2 rfl (lv_at hl 2 rfl) ?_
  refine roV CF (c_X4_savedByGoing l D cI cC cW t _ _ _ _ _ (by first | (with_reducible first | assumption | exact g20 (by assumption) (by assumption) | exact sl60 (by assumption) | exact s4 (by assumption)) | (unfold vp_in; decide)) (by first | (with_reducible first | assumption | exact g20 (by assumption) (by assumption) | exact sl60 (by assumption) | exact s4 (by assumption)) | (unfold vp_in; decide)) (by first | (with_reducible first | assumption | exact g20 (by assumption) (by assumption) | exact sl60 (by assumption) | exact s4 (by assumption)) | (unfold vp_in; decide))) (cwV 2 hts gX4_worthOfGoing_X4_savedByGoing rfl rfl rfl (by decide +kernel) ⟨Nat.le_of_ble_eq_true rfl, Nat.le_of_ble_eq_true rfl⟩) hP hK hX hS 0 3 wg_0 rfl rfl hl.1 rfl (Nat.le_of_ble_eq_true rfl) dX4_worthOfGoing_3 ⟨Nat.zero_le _, Nat.zero_le _⟩ ?_
  refine lv_aload_n hx hb dX4_worthOfGoing_6 rfl (lv_at hl 0 rfl) ?_
  refine roV CF (c_X4_weeksLeft l D cI cC cW t _ _ _  ) (cwV 0 hts gX4_worthOfGoing_X4_weeksLeft rfl rfl rfl (by decide +kernel) ⟨Nat.le_of_ble_eq_true rfl, Nat.le_of_ble_eq_true rfl⟩) hP hK hX hS 0 3 wg_0 rfl rfl hl.1 rfl (Nat.le_of_ble_eq_true rfl) dX4_worthOfGoing_7 ⟨Nat.zero_le _, Nat.zero_le _⟩ ?_
  refine lv_imul hx hb dX4_worthOfGoing_10 ?_
  refine lv_aload_n hx hb dX4_worthOfGoing_11 rfl (lv_at hl 0 rfl) ?_
  refine lv_iload_n hx hb dX4_worthOfGoing_12 rfl (lv_at hl 1 rfl) ?_
  refine lv_iload_n hx hb dX4_worthOfGoing_13 rfl (lv_at hl 2 rfl) ?_
  refine roV CF (c_X4_walkOfGoing l D cI cC cW t _ _ _ _ _ (by first | (with_reducible first | assumption | exact g20 (by assumption) (by assumption) | exact sl60 (by assumption) | exact s4 (by assumption)) | (unfold vp_in; decide)) (by first | (with_reducible first | assumption | exact g20 (by assumption) (by assumption) | exact sl60 (by assumption) | exact s4 (by assumption)) | (unfold vp_in; decide)) (by first | (with_reducible first | assumption | exact g20 (by assumption) (by assumption) | exact sl60 (by assumption) | exact s4 (by assumption)) | (unfold vp_in; decide))) (cwV 2 hts gX4_worthOfGoing_X4_walkOfGoing rfl rfl rfl (by decide +kernel) ⟨Nat.le_of_ble_eq_true rfl, Nat.le_of_ble_eq_true rfl⟩) hP hK hX hS 0 3 wg_0 rfl rfl hl.1 rfl (Nat.le_of_ble_eq_true rfl) dX4_worthOfGoing_14 ⟨Nat.zero_le _, Nat.zero_le _⟩ ?_
  refine lv_isub hx hb dX4_worthOfGoing_17 ?_
  exact ro_ret hx hb hr (rfl) dX4_worthOfGoing_18 hlocks

def sp_X4_numberOfChange (N : Nat → Int32) (G : Nat → Int32) (x1 x2 x3 : Int32) : Int32 :=
  if (sp_X4_isGood N G x1) = 0 then ((-1 : Int32)) else (if (sp_X2_isSlot x2) = 0 then ((-1 : Int32)) else (if (sp_X5_isIn x3 (0 : Int32) (2 : Int32)) = 0 then ((-1 : Int32)) else (if (sp_X4_canGo N G x1 x2) = 0 then ((-2 : Int32)) else (if x3 = (2 : Int32) then ((sp_X4_walkOfGoing N G x1 x2)) else (if x3 = 0 then (((100000000 : Int32) + (sp_X4_worthOfGoing N G x1 x2))) else (((100000000 : Int32) + (sp_X4_savedByGoing N G x1 x2))))))))
set_option maxHeartbeats 4000000 in
set_option maxRecDepth 100000 in
theorem c_X4_numberOfChange (l : Launch) (D : va_G) (cI cC cW : ClassId) (t : Nat → Nat) (a : Nat → Nat) (N : Nat → Int32) (G : Nat → Int32) (x1 x2 x3 : Int32) (hsf : sfN N) : Met l yX4_numberOfChange wsX4_numberOfChange ({ frames := 4, cells := 0, slots := 0, locals := 82 }) (va_Pc [.ref (a 0), .int x1, .int x2, .int x3] (roP D (tyL cI cC cW) (wg cI a N G) t)) (vp_Si (fun r => r = sp_X4_numberOfChange N G x1 x2 x3)) 0 0 (fun _ => False) := by
  refine Met.ofW (cc := cX4_numberOfChange) (maxL := 4) (ret := (some .int)) (by decide) rfl ?_
  intro p e s m args below meth c s₁ B hml hv
  obtain ⟨rfl, hP, hK, hX⟩ := hv
  have hx := B.exec
  have hb := B.bytes
  have hr := B.returns
  have hts := atoms_spec (ws := wsX4_numberOfChange) B.pre
  have hown : s.vm.findClass RX4 = some m.cls := findClass_of_methodNamed B.named
  have hlocks := B.notSynchronized
  have hS : va_S (fun _ => False) s.heap s.heap [] := va_S.rf
  have wd13 : (Cond.initialized RX5).before [.ref (a 0), .int x1, .int x2, .int x3].toArray s = true := hts _ (List.mem_of_getElem? (i := 13) rfl)
  have wd12 : (Cond.static yX5_isIn).before [.ref (a 0), .int x1, .int x2, .int x3].toArray s = true := hts _ (List.mem_of_getElem? (i := 12) rfl)
  have wd1 : (Cond.constant RX4 145 (100000000)).before [.ref (a 0), .int x1, .int x2, .int x3].toArray s = true := hts _ (List.mem_of_getElem? (i := 1) rfl)
  have CF : CallFix p m c cX4_numberOfChange 4 s [.ref (a 0), .int x1, .int x2, .int x3].toArray wsX4_numberOfChange RX4 := ⟨hx, hb, hml, hown, hts⟩
  have hl := lv_entry ([.ref (a 0), .int x1, .int x2, .int x3]) (n := 4) (Nat.le_of_ble_eq_true rfl)
  rw [lg_entry_eq]
  generalize (lg_sl ([.ref (a 0), .int x1, .int x2, .int x3]) ++ List.replicate (4 - (lg_sl ([.ref (a 0), .int x1, .int x2, .int x3])).length) Slot.unset).toArray = ls at hl ⊢
  have hl : lv_has ls 4 [(0, .ref (a 0)), (1, .int x1), (2, .int x2), (3, .int x3)] := hl
  refine lv_aload_n hx hb dX4_numberOfChange_0 rfl (lv_at hl 0 rfl) ?_
  refine lv_iload_n hx hb dX4_numberOfChange_1 rfl (lv_at hl 1 rfl) ?_
  refine roV CF (c_X4_isGood l D cI cC cW t _ _ _ _ ) (cwV 1 hts gX4_numberOfChange_X4_isGood rfl rfl rfl (by decide +kernel) ⟨Nat.le_of_ble_eq_true rfl, Nat.le_of_ble_eq_true rfl⟩) hP hK hX hS 0 3 wg_0 rfl rfl hl.1 rfl (Nat.le_of_ble_eq_true rfl) dX4_numberOfChange_2 ⟨Nat.zero_le _, Nat.zero_le _⟩ ?_
  refine lv_if_eq (tgt := 24) hx hb dX4_numberOfChange_5 (by decide) (fun c5 => ?_) (fun c5 => ?_)
  · refine lv_iconst (v := -1) hx hb dX4_numberOfChange_24 (by decide) ?_
    exact ro_ret hx hb hr (Eq.trans (if_pos c5) (rfl)) dX4_numberOfChange_25 hlocks
  · have hg : vp_in x1 20 := g20 hsf c5
    refine lv_iload_n hx hb dX4_numberOfChange_8 rfl (lv_at hl 2 rfl) ?_
    refine roS CF (c_X2_isSlot l D cI cC cW t _ ) (va_cwS 1 hts gX4_numberOfChange_X2_isSlot rfl rfl rfl (by decide +kernel) ⟨Nat.le_of_ble_eq_true rfl, Nat.le_of_ble_eq_true rfl⟩) vP_nil hK hX hS rfl hl.1 rfl (Nat.le_of_ble_eq_true rfl) dX4_numberOfChange_9 ⟨Nat.zero_le _, Nat.zero_le _⟩ ?_
    refine lv_if_eq (tgt := 24) hx hb dX4_numberOfChange_12 (by decide) (fun c12 => ?_) (fun c12 => ?_)
    · refine lv_iconst (v := -1) hx hb dX4_numberOfChange_24 (by decide) ?_
      exact ro_ret hx hb hr (Eq.trans (if_neg c5) (Eq.trans (if_pos c12) (rfl))) dX4_numberOfChange_25 hlocks
    · have hs : vp_in x2 60 := sl60 c12
      refine lv_iload_n hx hb dX4_numberOfChange_15 rfl (lv_at hl 3 rfl) ?_
      refine lv_iconst (v := 0) hx hb dX4_numberOfChange_16 (by decide) ?_
      refine lv_iconst (v := 2) hx hb dX4_numberOfChange_17 (by decide) ?_
      refine roSN CF (c_X5_isIn l D cI cC cW t _ _ _ ) (va_cnB 3 hts gX4_numberOfChange_X5_isIn_n86 rfl rfl rfl (hX.1.2 ("PickSlots$Warehouse", 86, yX5_isIn) (List.mem_of_getElem? (i := 3) rfl)) wd13 (by decide +kernel) ⟨Nat.le_of_ble_eq_true rfl, Nat.le_of_ble_eq_true rfl⟩) wd12 vP_nil hK hX hS rfl hl.1 rfl (Nat.le_of_ble_eq_true rfl) dX4_numberOfChange_18 ⟨Nat.zero_le _, Nat.zero_le _⟩ ?_
      refine lv_if_ne (tgt := 26) hx hb dX4_numberOfChange_21 (by decide) (fun c21 => ?_) (fun c21 => ?_)
      · refine lv_aload_n hx hb dX4_numberOfChange_26 rfl (lv_at hl 0 rfl) ?_
        refine lv_iload_n hx hb dX4_numberOfChange_27 rfl (lv_at hl 1 rfl) ?_
        refine lv_iload_n hx hb dX4_numberOfChange_28 rfl (lv_at hl 2 rfl) ?_
        refine roV CF (c_X4_canGo l D cI cC cW t _ _ _ _ _ (by first | (with_reducible first | assumption | exact g20 (by assumption) (by assumption) | exact sl60 (by assumption) | exact s4 (by assumption)) | (unfold vp_in; decide)) (by first | (with_reducible first | assumption | exact g20 (by assumption) (by assumption) | exact sl60 (by assumption) | exact s4 (by assumption)) | (unfold vp_in; decide)) (by first | (with_reducible first | assumption | exact g20 (by assumption) (by assumption) | exact sl60 (by assumption) | exact s4 (by assumption)) | (unfold vp_in; decide))) (cwV 2 hts gX4_numberOfChange_X4_canGo rfl rfl rfl (by decide +kernel) ⟨Nat.le_of_ble_eq_true rfl, Nat.le_of_ble_eq_true rfl⟩) hP hK hX hS 0 3 wg_0 rfl rfl hl.1 rfl (Nat.le_of_ble_eq_true rfl) dX4_numberOfChange_29 ⟨Nat.zero_le _, Nat.zero_le _⟩ ?_
        refine lv_if_ne (tgt := 38) hx hb dX4_numberOfChange_32 (by decide) (fun c32 => ?_) (fun c32 => ?_)
        · refine lv_iload_n hx hb dX4_numberOfChange_38 rfl (lv_at hl 3 rfl) ?_
          refine lv_iconst (v := 2) hx hb dX4_numberOfChange_39 (by decide) ?_
          refine lv_icmp_ne (tgt := 50) hx hb dX4_numberOfChange_40 (by decide) (fun c40 => ?_) (fun c40 => ?_)
          · refine lv_ldc hx hb hown wd1 dX4_numberOfChange_50 ?_
            refine lv_iload_n hx hb dX4_numberOfChange_52 rfl (lv_at hl 3 rfl) ?_
            refine lv_if_ne (tgt := 65) hx hb dX4_numberOfChange_53 (by decide) (fun c53 => ?_) (fun c53 => ?_)
            · refine lv_aload_n hx hb dX4_numberOfChange_65 rfl (lv_at hl 0 rfl) ?_
              refine lv_iload_n hx hb dX4_numberOfChange_66 rfl (lv_at hl 1 rfl) ?_
              refine lv_iload_n hx hb dX4_numberOfChange_67 rfl (lv_at hl 2 rfl) ?_
              refine roV CF (c_X4_savedByGoing l D cI cC cW t _ _ _ _ _ (by first | (with_reducible first | assumption | exact g20 (by assumption) (by assumption) | exact sl60 (by assumption) | exact s4 (by assumption)) | (unfold vp_in; decide)) (by first | (with_reducible first | assumption | exact g20 (by assumption) (by assumption) | exact sl60 (by assumption) | exact s4 (by assumption)) | (unfold vp_in; decide)) (by first | (with_reducible first | assumption | exact g20 (by assumption) (by assumption) | exact sl60 (by assumption) | exact s4 (by assumption)) | (unfold vp_in; decide))) (cwV 2 hts gX4_numberOfChange_X4_savedByGoing rfl rfl rfl (by decide +kernel) ⟨Nat.le_of_ble_eq_true rfl, Nat.le_of_ble_eq_true rfl⟩) hP hK hX hS 0 3 wg_0 rfl rfl hl.1 rfl (Nat.le_of_ble_eq_true rfl) dX4_numberOfChange_68 ⟨Nat.zero_le _, Nat.zero_le _⟩ ?_
              refine lv_iadd hx hb dX4_numberOfChange_71 ?_
              exact ro_ret hx hb hr (Eq.trans (if_neg c5) (Eq.trans (if_neg c12) (Eq.trans (if_neg c21) (Eq.trans (if_neg c32) (Eq.trans (if_neg c40) (Eq.trans (if_neg c53) (rfl))))))) dX4_numberOfChange_72 hlocks
            · refine lv_aload_n hx hb dX4_numberOfChange_56 rfl (lv_at hl 0 rfl) ?_
              refine lv_iload_n hx hb dX4_numberOfChange_57 rfl (lv_at hl 1 rfl) ?_
              refine lv_iload_n hx hb dX4_numberOfChange_58 rfl (lv_at hl 2 rfl) ?_
              refine roV CF (c_X4_worthOfGoing l D cI cC cW t _ _ _ _ _ (by first | (with_reducible first | assumption | exact g20 (by assumption) (by assumption) | exact sl60 (by assumption) | exact s4 (by assumption)) | (unfold vp_in; decide)) (by first | (with_reducible first | assumption | exact g20 (by assumption) (by assumption) | exact sl60 (by assumption) | exact s4 (by assumption)) | (unfold vp_in; decide)) (by first | (with_reducible first | assumption | exact g20 (by assumption) (by assumption) | exact sl60 (by assumption) | exact s4 (by assumption)) | (unfold vp_in; decide))) (cwV 2 hts gX4_numberOfChange_X4_worthOfGoing rfl rfl rfl (by decide +kernel) ⟨Nat.le_of_ble_eq_true rfl, Nat.le_of_ble_eq_true rfl⟩) hP hK hX hS 0 3 wg_0 rfl rfl hl.1 rfl (Nat.le_of_ble_eq_true rfl) dX4_numberOfChange_59 ⟨Nat.zero_le _, Nat.zero_le _⟩ ?_
              refine lv_goto (tgt := 71) hx hb dX4_numberOfChange_62 (by decide) ?_
              refine lv_iadd hx hb dX4_numberOfChange_71 ?_
              exact ro_ret hx hb hr (Eq.trans (if_neg c5) (Eq.trans (if_neg c12) (Eq.trans (if_neg c21) (Eq.trans (if_neg c32) (Eq.trans (if_neg c40) (Eq.trans (if_pos c53) (rfl))))))) dX4_numberOfChange_72 hlocks
          · refine lv_aload_n hx hb dX4_numberOfChange_43 rfl (lv_at hl 0 rfl) ?_
            refine lv_iload_n hx hb dX4_numberOfChange_44 rfl (lv_at hl 1 rfl) ?_
            refine lv_iload_n hx hb dX4_numberOfChange_45 rfl (lv_at hl 2 rfl) ?_
            refine roV CF (c_X4_walkOfGoing l D cI cC cW t _ _ _ _ _ (by first | (with_reducible first | assumption | exact g20 (by assumption) (by assumption) | exact sl60 (by assumption) | exact s4 (by assumption)) | (unfold vp_in; decide)) (by first | (with_reducible first | assumption | exact g20 (by assumption) (by assumption) | exact sl60 (by assumption) | exact s4 (by assumption)) | (unfold vp_in; decide)) (by first | (with_reducible first | assumption | exact g20 (by assumption) (by assumption) | exact sl60 (by assumption) | exact s4 (by assumption)) | (unfold vp_in; decide))) (cwV 2 hts gX4_numberOfChange_X4_walkOfGoing rfl rfl rfl (by decide +kernel) ⟨Nat.le_of_ble_eq_true rfl, Nat.le_of_ble_eq_true rfl⟩) hP hK hX hS 0 3 wg_0 rfl rfl hl.1 rfl (Nat.le_of_ble_eq_true rfl) dX4_numberOfChange_46 ⟨Nat.zero_le _, Nat.zero_le _⟩ ?_
            exact ro_ret hx hb hr (Eq.trans (if_neg c5) (Eq.trans (if_neg c12) (Eq.trans (if_neg c21) (Eq.trans (if_neg c32) (Eq.trans (if_pos c40) (rfl)))))) dX4_numberOfChange_49 hlocks
        · refine lv_bipush (v := -2) hx hb dX4_numberOfChange_35 (by decide) ?_
          exact ro_ret hx hb hr (Eq.trans (if_neg c5) (Eq.trans (if_neg c12) (Eq.trans (if_neg c21) (Eq.trans (if_pos c32) (rfl))))) dX4_numberOfChange_37 hlocks
      · refine lv_iconst (v := -1) hx hb dX4_numberOfChange_24 (by decide) ?_
        exact ro_ret hx hb hr (Eq.trans (if_neg c5) (Eq.trans (if_neg c12) (Eq.trans (if_pos c21) (rfl)))) dX4_numberOfChange_25 hlocks

def lp18_X4_bestGoing (N : Nat → Int32) (G : Nat → Int32) (v3 : Int32) (K7 : Int32 → Int32 → Int32 → Int32) : Nat → Int32 → Int32 → Int32 → Int32
  | 0, v1, v2, v4 => 0
  | n + 1, v1, v2, v4 => if (60 : Int32) ≤ v4 then (K7 v1 v2 (v3 + (1 : Int32)) ) else (if (sp_X4_canGo N G v3 v4) = 0 then (lp18_X4_bestGoing N G v3 K7 n v1 v2 (v4 + (1 : Int32)) ) else (if (sp_X4_worthOfGoing N G v3 v4) ≤ v2 then (lp18_X4_bestGoing N G v3 K7 n v1 v2 (v4 + (1 : Int32)) ) else (lp18_X4_bestGoing N G v3 K7 n ((v3 * (60 : Int32)) + v4) (sp_X4_worthOfGoing N G v3 v4) (v4 + (1 : Int32)) )))
theorem lp18_X4_bestGoing_s (N : Nat → Int32) (G : Nat → Int32) (v3 : Int32) (K7 : Int32 → Int32 → Int32 → Int32) (n : Nat) (v1 : Int32) (v2 : Int32) (v4 : Int32)  : lp18_X4_bestGoing N G v3 K7 (n + 1) v1 v2 v4 = if (60 : Int32) ≤ v4 then (K7 v1 v2 (v3 + (1 : Int32)) ) else (if (sp_X4_canGo N G v3 v4) = 0 then (lp18_X4_bestGoing N G v3 K7 n v1 v2 (v4 + (1 : Int32)) ) else (if (sp_X4_worthOfGoing N G v3 v4) ≤ v2 then (lp18_X4_bestGoing N G v3 K7 n v1 v2 (v4 + (1 : Int32)) ) else (lp18_X4_bestGoing N G v3 K7 n ((v3 * (60 : Int32)) + v4) (sp_X4_worthOfGoing N G v3 v4) (v4 + (1 : Int32)) ))) := rfl
def lp7_X4_bestGoing (N : Nat → Int32) (G : Nat → Int32) : Nat → Int32 → Int32 → Int32 → Int32
  | 0, v1, v2, v3 => 0
  | n + 1, v1, v2, v3 => if (N 0) ≤ v3 then (v1) else (lp18_X4_bestGoing N G v3 (lp7_X4_bestGoing N G n) 61 v1 v2 (0 : Int32) )
theorem lp7_X4_bestGoing_s (N : Nat → Int32) (G : Nat → Int32) (n : Nat) (v1 : Int32) (v2 : Int32) (v3 : Int32)  : lp7_X4_bestGoing N G (n + 1) v1 v2 v3 = if (N 0) ≤ v3 then (v1) else (lp18_X4_bestGoing N G v3 (lp7_X4_bestGoing N G n) 61 v1 v2 (0 : Int32) ) := rfl
def sp_X4_bestGoing (N : Nat → Int32) (G : Nat → Int32) : Int32 :=
  lp7_X4_bestGoing N G 21 (-4 : Int32) (0 : Int32) (0 : Int32) 
set_option maxHeartbeats 4000000 in
set_option maxRecDepth 100000 in
theorem c_X4_bestGoing (l : Launch) (D : va_G) (cI cC cW : ClassId) (t : Nat → Nat) (a : Nat → Nat) (N : Nat → Int32) (G : Nat → Int32) (hsf : sfN N) : Met l yX4_bestGoing wsX4_bestGoing ({ frames := 4, cells := 0, slots := 0, locals := 82 }) (va_Pc [.ref (a 0)] (roP D (tyL cI cC cW) (wg cI a N G) t)) (vp_Si (fun r => r = sp_X4_bestGoing N G)) 0 0 (fun _ => False) := by
  refine Met.ofW (cc := cX4_bestGoing) (maxL := 5) (ret := (some .int)) (by decide) rfl ?_
  intro p e s m args below meth c s₁ B hml hv
  obtain ⟨rfl, hP, hK, hX⟩ := hv
  have hx := B.exec
  have hb := B.bytes
  have hr := B.returns
  have hts := atoms_spec (ws := wsX4_bestGoing) B.pre
  have hown : s.vm.findClass RX4 = some m.cls := findClass_of_methodNamed B.named
  have hlocks := B.notSynchronized
  have hS : va_S (fun _ => False) s.heap s.heap [] := va_S.rf
  have wd1 : (Cond.fieldLink RX4 59 "PickSlots$Warehouse" "goods" "I").before [.ref (a 0)].toArray s = true := hts _ (List.mem_of_getElem? (i := 1) rfl)
  have hi4 : ∀ w ∈ wsX40, w ∈ wsX4_bestGoing := fun w h => List.mem_cons_of_mem _ (List.mem_append_right _ (h))
  have CF : CallFix p m c cX4_bestGoing 5 s [.ref (a 0)].toArray wsX4_bestGoing RX4 := ⟨hx, hb, hml, hown, hts⟩
  have hl := lv_entry ([.ref (a 0)]) (n := 5) (Nat.le_of_ble_eq_true rfl)
  rw [lg_entry_eq]
  generalize (lg_sl ([.ref (a 0)]) ++ List.replicate (5 - (lg_sl ([.ref (a 0)])).length) Slot.unset).toArray = ls at hl ⊢
  have hl : lv_has ls 5 [(0, .ref (a 0))] := hl
  refine lv_bipush (v := -4) hx hb dX4_bestGoing_0 (by decide) ?_
  refine lv_istore_n (lv' := [(1, .int _), (0, .ref _)]) hx hb dX4_bestGoing_2 rfl hl (by decide) rfl (fun ls hl => ?_)
  refine lv_iconst (v := 0) hx hb dX4_bestGoing_3 (by decide) ?_
  refine lv_istore_n (lv' := [(2, .int _), (1, .int _), (0, .ref _)]) hx hb dX4_bestGoing_4 rfl hl (by decide) rfl (fun ls hl => ?_)
  refine lv_iconst (v := 0) hx hb dX4_bestGoing_5 (by decide) ?_
  refine lv_istore_n (lv' := [(3, .int _), (2, .int _), (1, .int _), (0, .ref _)]) hx hb dX4_bestGoing_6 rfl hl (by decide) rfl (fun ls hl => ?_)
  have L7 : ∀ (n7 : Nat) (v1 v2 v3 : Int32), (0 ≤ v3.toInt) → (v3.toInt ≤ (N 0).toInt) → ((N 0).toInt - v3.toInt < (n7 : Int)) → sp_X4_bestGoing N G = lp7_X4_bestGoing N G (n7) v1 v2 v3  → ∀ (ls : Array Slot), lv_has ls 5 [(1, .int v1), (2, .int v2), (3, .int v3), (0, .ref (a 0))] → W p l e (headSpec wsX4_bestGoing ({ frames := 4, cells := 0, slots := 0, locals := 82 } : Room)).room s m [.ref (a 0)].toArray below meth c s.heap [] 0 0 (MQ below (vp_Si (fun r => r = sp_X4_bestGoing N G)) [.ref (a 0)].toArray s 0 0 (fun _ => False)) (F0 m 7 ls []) := by
    intro n7
    induction n7 with
    | zero => intro v1 v2 v3  i1 i2 im; exfalso; omega
    | succ n7 ih7 =>
      intro v1 v2 v3  i1 i2 im hsp7 ls hl
      refine lv_iload_n hx hb dX4_bestGoing_7 rfl (lv_at hl 2 rfl) ?_
      refine lv_aload_n hx hb dX4_bestGoing_8 rfl (lv_at hl 3 rfl) ?_
      refine va_get (D := D) (ci := 3) (C := RX4) (T := TX4) (N := 13) hx hb hts hi4 hown hK hP 0 wg_0 rfl 11 (by decide) wd1 (fun _ h9 => h9) rfl dX4_bestGoing_9 ?_
      refine lv_icmp_ge (tgt := 74) hx hb dX4_bestGoing_12 (by decide) (fun c12 => ?_) (fun c12 => ?_)
      · refine lv_iload_n hx hb dX4_bestGoing_74 rfl (lv_at hl 0 rfl) ?_
        exact ro_ret hx hb hr (Eq.trans hsp7 (Eq.trans (lp7_X4_bestGoing_s _ _ _ _ _ _) (Eq.trans (if_pos c12) (rfl)))) dX4_bestGoing_75 hlocks
      · have hv : vp_in v3 20 := cnin20 hsf i1 c12
        refine lv_iconst (v := 0) hx hb dX4_bestGoing_15 (by decide) ?_
        refine lv_istore (lv' := [(4, .int _), (1, .int _), (2, .int _), (3, .int _), (0, .ref _)]) hx hb dX4_bestGoing_16 hl (by decide) rfl (fun ls hl => ?_)
        have L18 : ∀ (n18 : Nat) (v1 v2 v4 : Int32), (0 ≤ v4.toInt) → (v4.toInt ≤ (60 : Int32).toInt) → ((60 : Int32).toInt - v4.toInt < (n18 : Int)) → sp_X4_bestGoing N G = lp18_X4_bestGoing N G v3 (lp7_X4_bestGoing N G n7) (n18) v1 v2 v4  → ∀ (ls : Array Slot), lv_has ls 5 [(1, .int v1), (2, .int v2), (4, .int v4), (3, .int v3), (0, .ref (a 0))] → W p l e (headSpec wsX4_bestGoing ({ frames := 4, cells := 0, slots := 0, locals := 82 } : Room)).room s m [.ref (a 0)].toArray below meth c s.heap [] 0 0 (MQ below (vp_Si (fun r => r = sp_X4_bestGoing N G)) [.ref (a 0)].toArray s 0 0 (fun _ => False)) (F0 m 18 ls []) := by
          intro n18
          induction n18 with
          | zero => intro v1 v2 v4  j1 j2 jm; exfalso; omega
          | succ n18 ih18 =>
            intro v1 v2 v4  j1 j2 jm hsp18 ls hl
            refine lv_iload hx hb dX4_bestGoing_18 (lv_at hl 2 rfl) ?_
            refine lv_bipush (v := 60) hx hb dX4_bestGoing_20 (by decide) ?_
            refine lv_icmp_ge (tgt := 68) hx hb dX4_bestGoing_22 (by decide) (fun c22 => ?_) (fun c22 => ?_)
            · refine lv_iinc (v := _ + (1 : Int32)) (lv' := [(3, .int _), (1, .int _), (2, .int _), (4, .int _), (0, .ref _)]) hx hb dX4_bestGoing_68 hl (k := 3) rfl rfl (by decide) rfl (fun ls hl => ?_)
              refine lv_goto (tgt := 7) hx hb dX4_bestGoing_71 (by decide) ?_
              exact ih7 _ _ _ (cs1 i1 c12) (cs2 c12) (csm c12 im) (Eq.trans hsp18 (Eq.trans (lp18_X4_bestGoing_s _ _ _ _ _ _ _ _) (Eq.trans (if_pos c22) (rfl)))) _ (lv_sub hl [1, 2, 0, 4] rfl)
            · have hv4 : vp_in v4 60 := cnin 60 rfl j1 c22
              refine lv_aload_n hx hb dX4_bestGoing_25 rfl (lv_at hl 4 rfl) ?_
              refine lv_iload_n hx hb dX4_bestGoing_26 rfl (lv_at hl 3 rfl) ?_
              refine lv_iload hx hb dX4_bestGoing_27 (lv_at hl 2 rfl) ?_
              refine roV CF (c_X4_canGo l D cI cC cW t _ _ _ _ _ (by first | (with_reducible first | assumption | exact g20 (by assumption) (by assumption) | exact sl60 (by assumption) | exact s4 (by assumption)) | (unfold vp_in; decide)) (by first | (with_reducible first | assumption | exact g20 (by assumption) (by assumption) | exact sl60 (by assumption) | exact s4 (by assumption)) | (unfold vp_in; decide)) (by first | (with_reducible first | assumption | exact g20 (by assumption) (by assumption) | exact sl60 (by assumption) | exact s4 (by assumption)) | (unfold vp_in; decide))) (cwV 2 hts gX4_bestGoing_X4_canGo rfl rfl rfl (by decide +kernel) ⟨Nat.le_of_ble_eq_true rfl, Nat.le_of_ble_eq_true rfl⟩) hP hK hX hS 0 3 wg_0 rfl rfl hl.1 rfl (Nat.le_of_ble_eq_true rfl) dX4_bestGoing_29 ⟨Nat.zero_le _, Nat.zero_le _⟩ ?_
              refine lv_if_eq (tgt := 62) hx hb dX4_bestGoing_32 (by decide) (fun c32 => ?_) (fun c32 => ?_)
              · refine lv_iinc (v := _ + (1 : Int32)) (lv' := [(4, .int _), (1, .int _), (2, .int _), (3, .int _), (0, .ref _)]) hx hb dX4_bestGoing_62 hl (k := 2) rfl rfl (by decide) rfl (fun ls hl => ?_)
                refine lv_goto (tgt := 18) hx hb dX4_bestGoing_65 (by decide) ?_
                exact ih18 _ _ _ (cs1 j1 c22) (cs2 c22) (csm c22 jm) (Eq.trans hsp18 (Eq.trans (lp18_X4_bestGoing_s _ _ _ _ _ _ _ _) (Eq.trans (if_neg c22) (Eq.trans (if_pos c32) (rfl))))) _ (lv_sub hl [1, 2, 0, 3, 4] rfl)
              · refine lv_aload_n hx hb dX4_bestGoing_35 rfl (lv_at hl 4 rfl) ?_
                refine lv_iload_n hx hb dX4_bestGoing_36 rfl (lv_at hl 3 rfl) ?_
                refine lv_iload hx hb dX4_bestGoing_37 (lv_at hl 2 rfl) ?_
                refine roV CF (c_X4_worthOfGoing l D cI cC cW t _ _ _ _ _ (by first | (with_reducible first | assumption | exact g20 (by assumption) (by assumption) | exact sl60 (by assumption) | exact s4 (by assumption)) | (unfold vp_in; decide)) (by first | (with_reducible first | assumption | exact g20 (by assumption) (by assumption) | exact sl60 (by assumption) | exact s4 (by assumption)) | (unfold vp_in; decide)) (by first | (with_reducible first | assumption | exact g20 (by assumption) (by assumption) | exact sl60 (by assumption) | exact s4 (by assumption)) | (unfold vp_in; decide))) (cwV 2 hts gX4_bestGoing_X4_worthOfGoing rfl rfl rfl (by decide +kernel) ⟨Nat.le_of_ble_eq_true rfl, Nat.le_of_ble_eq_true rfl⟩) hP hK hX hS 0 3 wg_0 rfl rfl hl.1 rfl (Nat.le_of_ble_eq_true rfl) dX4_bestGoing_39 ⟨Nat.zero_le _, Nat.zero_le _⟩ ?_
                refine lv_iload_n hx hb dX4_bestGoing_42 rfl (lv_at hl 1 rfl) ?_
                refine lv_icmp_le (tgt := 62) hx hb dX4_bestGoing_43 (by decide) (fun c43 => ?_) (fun c43 => ?_)
                · refine lv_iinc (v := _ + (1 : Int32)) (lv' := [(4, .int _), (1, .int _), (2, .int _), (3, .int _), (0, .ref _)]) hx hb dX4_bestGoing_62 hl (k := 2) rfl rfl (by decide) rfl (fun ls hl => ?_)
                  refine lv_goto (tgt := 18) hx hb dX4_bestGoing_65 (by decide) ?_
                  exact ih18 _ _ _ (cs1 j1 c22) (cs2 c22) (csm c22 jm) (Eq.trans hsp18 (Eq.trans (lp18_X4_bestGoing_s _ _ _ _ _ _ _ _) (Eq.trans (if_neg c22) (Eq.trans (if_neg c32) (Eq.trans (if_pos c43) (rfl)))))) _ (lv_sub hl [1, 2, 0, 3, 4] rfl)
                · refine lv_aload_n hx hb dX4_bestGoing_46 rfl (lv_at hl 4 rfl) ?_
                  refine lv_iload_n hx hb dX4_bestGoing_47 rfl (lv_at hl 3 rfl) ?_
                  refine lv_iload hx hb dX4_bestGoing_48 (lv_at hl 2 rfl) ?_
                  refine roV CF (c_X4_worthOfGoing l D cI cC cW t _ _ _ _ _ (by first | (with_reducible first | assumption | exact g20 (by assumption) (by assumption) | exact sl60 (by assumption) | exact s4 (by assumption)) | (unfold vp_in; decide)) (by first | (with_reducible first | assumption | exact g20 (by assumption) (by assumption) | exact sl60 (by assumption) | exact s4 (by assumption)) | (unfold vp_in; decide)) (by first | (with_reducible first | assumption | exact g20 (by assumption) (by assumption) | exact sl60 (by assumption) | exact s4 (by assumption)) | (unfold vp_in; decide))) (cwV 2 hts gX4_bestGoing_X4_worthOfGoing rfl rfl rfl (by decide +kernel) ⟨Nat.le_of_ble_eq_true rfl, Nat.le_of_ble_eq_true rfl⟩) hP hK hX hS 0 3 wg_0 rfl rfl hl.1 rfl (Nat.le_of_ble_eq_true rfl) dX4_bestGoing_50 ⟨Nat.zero_le _, Nat.zero_le _⟩ ?_
                  refine lv_istore_n (lv' := [(2, .int _), (1, .int _), (4, .int _), (3, .int _), (0, .ref _)]) hx hb dX4_bestGoing_53 rfl hl (by decide) rfl (fun ls hl => ?_)
                  refine lv_iload_n hx hb dX4_bestGoing_54 rfl (lv_at hl 3 rfl) ?_
                  refine lv_bipush (v := 60) hx hb dX4_bestGoing_55 (by decide) ?_
                  refine lv_imul hx hb dX4_bestGoing_57 ?_
                  refine lv_iload hx hb dX4_bestGoing_58 (lv_at hl 2 rfl) ?_
                  refine lv_iadd hx hb dX4_bestGoing_60 ?_
                  refine lv_istore_n (lv' := [(1, .int _), (2, .int _), (4, .int _), (3, .int _), (0, .ref _)]) hx hb dX4_bestGoing_61 rfl hl (by decide) rfl (fun ls hl => ?_)
                  refine lv_iinc (v := _ + (1 : Int32)) (lv' := [(4, .int _), (1, .int _), (2, .int _), (3, .int _), (0, .ref _)]) hx hb dX4_bestGoing_62 hl (k := 2) rfl rfl (by decide) rfl (fun ls hl => ?_)
                  refine lv_goto (tgt := 18) hx hb dX4_bestGoing_65 (by decide) ?_
                  exact ih18 _ _ _ (cs1 j1 c22) (cs2 c22) (csm c22 jm) (Eq.trans hsp18 (Eq.trans (lp18_X4_bestGoing_s _ _ _ _ _ _ _ _) (Eq.trans (if_neg c22) (Eq.trans (if_neg c32) (Eq.trans (if_neg c43) (rfl)))))) _ (lv_sub hl [1, 2, 0, 3, 4] rfl)
        exact L18 61 _ _ _ (by decide) (by decide) (by decide) (Eq.trans hsp7 (Eq.trans (lp7_X4_bestGoing_s _ _ _ _ _ _) (Eq.trans (if_neg c12) (rfl)))) _ (lv_sub hl [1, 2, 0, 3, 4] rfl)
  exact L7 21 _ _ _ (by decide) (cn2 hsf) (cnm hsf) (rfl) _ (lv_sub hl [2, 1, 0, 3] rfl)

def sp_X4_numberOfAccount (N : Nat → Int32) (G : Nat → Int32) (x1 : Int32) : Int32 :=
  if x1 = (0 : Int32) then ((N 5)) else (if x1 = (1 : Int32) then ((N 6)) else (if x1 = (2 : Int32) then ((N 7)) else (if x1 = (3 : Int32) then ((N 8)) else (if x1 = (4 : Int32) then (((100000000 : Int32) + (N 9))) else (if x1 = (5 : Int32) then ((((100000000 : Int32) + (sp_X4_weeklyWalk N G (sp_X4_presentSeason N G))) + (N 9))) else (if x1 = (6 : Int32) then ((N 11)) else (if x1 = (7 : Int32) then ((N 12)) else ((-1 : Int32)))))))))
set_option maxHeartbeats 4000000 in
set_option maxRecDepth 100000 in
theorem c_X4_numberOfAccount (l : Launch) (D : va_G) (cI cC cW : ClassId) (t : Nat → Nat) (a : Nat → Nat) (N : Nat → Int32) (G : Nat → Int32) (x1 : Int32) (hsf : sfN N) : Met l yX4_numberOfAccount wsX4_numberOfAccount ({ frames := 3, cells := 0, slots := 0, locals := 64 }) (va_Pc [.ref (a 0), .int x1] (roP D (tyL cI cC cW) (wg cI a N G) t)) (vp_Si (fun r => r = sp_X4_numberOfAccount N G x1)) 0 0 (fun _ => False) := by
  refine Met.ofW (cc := cX4_numberOfAccount) (maxL := 2) (ret := (some .int)) (by decide) rfl ?_
  intro p e s m args below meth c s₁ B hml hv
  obtain ⟨rfl, hP, hK, hX⟩ := hv
  have hx := B.exec
  have hb := B.bytes
  have hr := B.returns
  have hts := atoms_spec (ws := wsX4_numberOfAccount) B.pre
  have hown : s.vm.findClass RX4 = some m.cls := findClass_of_methodNamed B.named
  have hlocks := B.notSynchronized
  have hS : va_S (fun _ => False) s.heap s.heap [] := va_S.rf
  have wd1 : (Cond.fieldLink RX4 47 "PickSlots$Warehouse" "accounts" "LPickSlots$Accounts;").before [.ref (a 0), .int x1].toArray s = true := hts _ (List.mem_of_getElem? (i := 1) rfl)
  have wd2 : (Cond.constant RX4 145 (100000000)).before [.ref (a 0), .int x1].toArray s = true := hts _ (List.mem_of_getElem? (i := 2) rfl)
  have hi0 : ∀ w ∈ wsX00, w ∈ wsX4_numberOfAccount := fun w h => List.mem_cons_of_mem _ (List.mem_append_right _ (h))
  have hi4 : ∀ w ∈ wsX40, w ∈ wsX4_numberOfAccount := fun w h => List.mem_cons_of_mem _ (List.mem_append_left _ (List.mem_append_right _ (h)))
  have CF : CallFix p m c cX4_numberOfAccount 2 s [.ref (a 0), .int x1].toArray wsX4_numberOfAccount RX4 := ⟨hx, hb, hml, hown, hts⟩
  have hl := lv_entry ([.ref (a 0), .int x1]) (n := 2) (Nat.le_of_ble_eq_true rfl)
  rw [lg_entry_eq]
  generalize (lg_sl ([.ref (a 0), .int x1]) ++ List.replicate (2 - (lg_sl ([.ref (a 0), .int x1])).length) Slot.unset).toArray = ls at hl ⊢
  have hl : lv_has ls 2 [(0, .ref (a 0)), (1, .int x1)] := hl
  refine lv_iload_n hx hb dX4_numberOfAccount_0 rfl (lv_at hl 1 rfl) ?_
  by_cases c1_0 : x1 = (0 : Int32)
  · refine lv_tableIn (tgt := 48) hx hb dX4_numberOfAccount_1 (by rw [c1_0]; decide) (by rw [c1_0]; decide) (by rw [c1_0]; rfl) (by decide) ?_
    refine lv_aload_n hx hb dX4_numberOfAccount_48 rfl (lv_at hl 0 rfl) ?_
    refine va_get (D := D) (ci := 3) (C := RX4) (T := TX4) (N := 13) hx hb hts hi4 hown hK hP 0 wg_0 rfl 10 (by decide) wd1 (fun _ h9 => h9) rfl dX4_numberOfAccount_49 ?_
    refine va_getN (D := D) (ci := 0) (C := RX0) (T := TX0) (N := 7) hx hb hts hi0 hown hK hP 11 wg_11 rfl 0 (by decide) (va_Nw.use rfl (hX.1.1 ("PickSlots$Warehouse", 126, "PickSlots$Accounts", "pickWalk") (List.mem_of_getElem? (i := 6) rfl))) (fun _ h9 => h9) rfl dX4_numberOfAccount_52 ?_
    exact ro_ret hx hb hr (Eq.trans (if_pos c1_0) (rfl)) dX4_numberOfAccount_55 hlocks
  · by_cases c1_1 : x1 = (1 : Int32)
    · refine lv_tableIn (tgt := 56) hx hb dX4_numberOfAccount_1 (by rw [c1_1]; decide) (by rw [c1_1]; decide) (by rw [c1_1]; rfl) (by decide) ?_
      refine lv_aload_n hx hb dX4_numberOfAccount_56 rfl (lv_at hl 0 rfl) ?_
      refine va_get (D := D) (ci := 3) (C := RX4) (T := TX4) (N := 13) hx hb hts hi4 hown hK hP 0 wg_0 rfl 10 (by decide) wd1 (fun _ h9 => h9) rfl dX4_numberOfAccount_57 ?_
      refine va_getN (D := D) (ci := 0) (C := RX0) (T := TX0) (N := 7) hx hb hts hi0 hown hK hP 11 wg_11 rfl 1 (by decide) (va_Nw.use rfl (hX.1.1 ("PickSlots$Warehouse", 135, "PickSlots$Accounts", "refillWalk") (List.mem_of_getElem? (i := 7) rfl))) (fun _ h9 => h9) rfl dX4_numberOfAccount_60 ?_
      exact ro_ret hx hb hr (Eq.trans (if_neg c1_0) (Eq.trans (if_pos c1_1) (rfl))) dX4_numberOfAccount_63 hlocks
    · by_cases c1_2 : x1 = (2 : Int32)
      · refine lv_tableIn (tgt := 64) hx hb dX4_numberOfAccount_1 (by rw [c1_2]; decide) (by rw [c1_2]; decide) (by rw [c1_2]; rfl) (by decide) ?_
        refine lv_aload_n hx hb dX4_numberOfAccount_64 rfl (lv_at hl 0 rfl) ?_
        refine va_get (D := D) (ci := 3) (C := RX4) (T := TX4) (N := 13) hx hb hts hi4 hown hK hP 0 wg_0 rfl 10 (by decide) wd1 (fun _ h9 => h9) rfl dX4_numberOfAccount_65 ?_
        refine va_getN (D := D) (ci := 0) (C := RX0) (T := TX0) (N := 7) hx hb hts hi0 hown hK hP 11 wg_11 rfl 2 (by decide) (va_Nw.use rfl (hX.1.1 ("PickSlots$Warehouse", 170, "PickSlots$Accounts", "moveWalk") (List.mem_of_getElem? (i := 8) rfl))) (fun _ h9 => h9) rfl dX4_numberOfAccount_68 ?_
        exact ro_ret hx hb hr (Eq.trans (if_neg c1_0) (Eq.trans (if_neg c1_1) (Eq.trans (if_pos c1_2) (rfl)))) dX4_numberOfAccount_71 hlocks
      · by_cases c1_3 : x1 = (3 : Int32)
        · refine lv_tableIn (tgt := 72) hx hb dX4_numberOfAccount_1 (by rw [c1_3]; decide) (by rw [c1_3]; decide) (by rw [c1_3]; rfl) (by decide) ?_
          refine lv_aload_n hx hb dX4_numberOfAccount_72 rfl (lv_at hl 0 rfl) ?_
          refine va_get (D := D) (ci := 3) (C := RX4) (T := TX4) (N := 13) hx hb hts hi4 hown hK hP 0 wg_0 rfl 10 (by decide) wd1 (fun _ h9 => h9) rfl dX4_numberOfAccount_73 ?_
          refine va_getN (D := D) (ci := 0) (C := RX0) (T := TX0) (N := 7) hx hb hts hi0 hown hK hP 11 wg_11 rfl 3 (by decide) (va_Nw.use rfl (hX.1.1 ("PickSlots$Warehouse", 132, "PickSlots$Accounts", "trips") (List.mem_of_getElem? (i := 9) rfl))) (fun _ h9 => h9) rfl dX4_numberOfAccount_76 ?_
          exact ro_ret hx hb hr (Eq.trans (if_neg c1_0) (Eq.trans (if_neg c1_1) (Eq.trans (if_neg c1_2) (Eq.trans (if_pos c1_3) (rfl))))) dX4_numberOfAccount_79 hlocks
        · by_cases c1_4 : x1 = (4 : Int32)
          · refine lv_tableIn (tgt := 80) hx hb dX4_numberOfAccount_1 (by rw [c1_4]; decide) (by rw [c1_4]; decide) (by rw [c1_4]; rfl) (by decide) ?_
            refine lv_ldc hx hb hown wd2 dX4_numberOfAccount_80 ?_
            refine lv_aload_n hx hb dX4_numberOfAccount_82 rfl (lv_at hl 0 rfl) ?_
            refine va_get (D := D) (ci := 3) (C := RX4) (T := TX4) (N := 13) hx hb hts hi4 hown hK hP 0 wg_0 rfl 10 (by decide) wd1 (fun _ h9 => h9) rfl dX4_numberOfAccount_83 ?_
            refine va_getN (D := D) (ci := 0) (C := RX0) (T := TX0) (N := 7) hx hb hts hi0 hown hK hP 11 wg_11 rfl 4 (by decide) (va_Nw.use rfl (hX.1.1 ("PickSlots$Warehouse", 173, "PickSlots$Accounts", "saved") (List.mem_of_getElem? (i := 10) rfl))) (fun _ h9 => h9) rfl dX4_numberOfAccount_86 ?_
            refine lv_iadd hx hb dX4_numberOfAccount_89 ?_
            exact ro_ret hx hb hr (Eq.trans (if_neg c1_0) (Eq.trans (if_neg c1_1) (Eq.trans (if_neg c1_2) (Eq.trans (if_neg c1_3) (Eq.trans (if_pos c1_4) (rfl)))))) dX4_numberOfAccount_90 hlocks
          · by_cases c1_5 : x1 = (5 : Int32)
            · refine lv_tableIn (tgt := 91) hx hb dX4_numberOfAccount_1 (by rw [c1_5]; decide) (by rw [c1_5]; decide) (by rw [c1_5]; rfl) (by decide) ?_
              refine lv_ldc hx hb hown wd2 dX4_numberOfAccount_91 ?_
              refine lv_aload_n hx hb dX4_numberOfAccount_93 rfl (lv_at hl 0 rfl) ?_
              refine lv_aload_n hx hb dX4_numberOfAccount_94 rfl (lv_at hl 0 rfl) ?_
              refine roV CF (c_X4_presentSeason l D cI cC cW t _ _ _  ) (cwV 0 hts gX4_numberOfAccount_X4_presentSeason rfl rfl rfl (by decide +kernel) ⟨Nat.le_of_ble_eq_true rfl, Nat.le_of_ble_eq_true rfl⟩) hP hK hX hS 0 3 wg_0 rfl rfl hl.1 rfl (Nat.le_of_ble_eq_true rfl) dX4_numberOfAccount_95 ⟨Nat.zero_le _, Nat.zero_le _⟩ ?_
              refine roV CF (c_X4_weeklyWalk l D cI cC cW t _ _ _ _ (hsf) (s4 hsf)) (cwV 1 hts gX4_numberOfAccount_X4_weeklyWalk rfl rfl rfl (by decide +kernel) ⟨Nat.le_of_ble_eq_true rfl, Nat.le_of_ble_eq_true rfl⟩) hP hK hX hS 0 3 wg_0 rfl rfl hl.1 rfl (Nat.le_of_ble_eq_true rfl) dX4_numberOfAccount_98 ⟨Nat.zero_le _, Nat.zero_le _⟩ ?_
              refine lv_iadd hx hb dX4_numberOfAccount_101 ?_
              refine lv_aload_n hx hb dX4_numberOfAccount_102 rfl (lv_at hl 0 rfl) ?_
              refine va_get (D := D) (ci := 3) (C := RX4) (T := TX4) (N := 13) hx hb hts hi4 hown hK hP 0 wg_0 rfl 10 (by decide) wd1 (fun _ h9 => h9) rfl dX4_numberOfAccount_103 ?_
              refine va_getN (D := D) (ci := 0) (C := RX0) (T := TX0) (N := 7) hx hb hts hi0 hown hK hP 11 wg_11 rfl 4 (by decide) (va_Nw.use rfl (hX.1.1 ("PickSlots$Warehouse", 173, "PickSlots$Accounts", "saved") (List.mem_of_getElem? (i := 10) rfl))) (fun _ h9 => h9) rfl dX4_numberOfAccount_106 ?_
              refine lv_iadd hx hb dX4_numberOfAccount_109 ?_
              exact ro_ret hx hb hr (Eq.trans (if_neg c1_0) (Eq.trans (if_neg c1_1) (Eq.trans (if_neg c1_2) (Eq.trans (if_neg c1_3) (Eq.trans (if_neg c1_4) (Eq.trans (if_pos c1_5) (rfl))))))) dX4_numberOfAccount_110 hlocks
            · by_cases c1_6 : x1 = (6 : Int32)
              · refine lv_tableIn (tgt := 111) hx hb dX4_numberOfAccount_1 (by rw [c1_6]; decide) (by rw [c1_6]; decide) (by rw [c1_6]; rfl) (by decide) ?_
                refine lv_aload_n hx hb dX4_numberOfAccount_111 rfl (lv_at hl 0 rfl) ?_
                refine va_get (D := D) (ci := 3) (C := RX4) (T := TX4) (N := 13) hx hb hts hi4 hown hK hP 0 wg_0 rfl 10 (by decide) wd1 (fun _ h9 => h9) rfl dX4_numberOfAccount_112 ?_
                refine va_getN (D := D) (ci := 0) (C := RX0) (T := TX0) (N := 7) hx hb hts hi0 hown hK hP 11 wg_11 rfl 5 (by decide) (va_Nw.use rfl (hX.1.1 ("PickSlots$Warehouse", 167, "PickSlots$Accounts", "moves") (List.mem_of_getElem? (i := 11) rfl))) (fun _ h9 => h9) rfl dX4_numberOfAccount_115 ?_
                exact ro_ret hx hb hr (Eq.trans (if_neg c1_0) (Eq.trans (if_neg c1_1) (Eq.trans (if_neg c1_2) (Eq.trans (if_neg c1_3) (Eq.trans (if_neg c1_4) (Eq.trans (if_neg c1_5) (Eq.trans (if_pos c1_6) (rfl)))))))) dX4_numberOfAccount_118 hlocks
              · by_cases c1_7 : x1 = (7 : Int32)
                · refine lv_tableIn (tgt := 119) hx hb dX4_numberOfAccount_1 (by rw [c1_7]; decide) (by rw [c1_7]; decide) (by rw [c1_7]; rfl) (by decide) ?_
                  refine lv_aload_n hx hb dX4_numberOfAccount_119 rfl (lv_at hl 0 rfl) ?_
                  refine va_get (D := D) (ci := 3) (C := RX4) (T := TX4) (N := 13) hx hb hts hi4 hown hK hP 0 wg_0 rfl 10 (by decide) wd1 (fun _ h9 => h9) rfl dX4_numberOfAccount_120 ?_
                  refine va_getN (D := D) (ci := 0) (C := RX0) (T := TX0) (N := 7) hx hb hts hi0 hown hK hP 11 wg_11 rfl 6 (by decide) (va_Nw.use rfl (hX.1.1 ("PickSlots$Warehouse", 123, "PickSlots$Accounts", "picks") (List.mem_of_getElem? (i := 12) rfl))) (fun _ h9 => h9) rfl dX4_numberOfAccount_123 ?_
                  exact ro_ret hx hb hr (Eq.trans (if_neg c1_0) (Eq.trans (if_neg c1_1) (Eq.trans (if_neg c1_2) (Eq.trans (if_neg c1_3) (Eq.trans (if_neg c1_4) (Eq.trans (if_neg c1_5) (Eq.trans (if_neg c1_6) (Eq.trans (if_pos c1_7) (rfl))))))))) dX4_numberOfAccount_126 hlocks
                · refine lv_tableOut (tgt := 127) hx hb dX4_numberOfAccount_1 (by have q0 := lv_neT c1_0 (a := 0) (by decide); have q1 := lv_neT c1_1 (a := 1) (by decide); have q2 := lv_neT c1_2 (a := 2) (by decide); have q3 := lv_neT c1_3 (a := 3) (by decide); have q4 := lv_neT c1_4 (a := 4) (by decide); have q5 := lv_neT c1_5 (a := 5) (by decide); have q6 := lv_neT c1_6 (a := 6) (by decide); have q7 := lv_neT c1_7 (a := 7) (by decide); omega) (by decide) ?_
                  refine lv_iconst (v := -1) hx hb dX4_numberOfAccount_127 (by decide) ?_
                  exact ro_ret hx hb hr (Eq.trans (if_neg c1_0) (Eq.trans (if_neg c1_1) (Eq.trans (if_neg c1_2) (Eq.trans (if_neg c1_3) (Eq.trans (if_neg c1_4) (Eq.trans (if_neg c1_5) (Eq.trans (if_neg c1_6) (Eq.trans (if_neg c1_7) (rfl))))))))) dX4_numberOfAccount_128 hlocks

def sp_X4_numberOfWarehouse (N : Nat → Int32) (G : Nat → Int32) (x1 : Int32) : Int32 :=
  if x1 = (0 : Int32) then ((N 0)) else (if x1 = (1 : Int32) then ((sp_X4_placedGoods N G (0 : Int32))) else (if x1 = (2 : Int32) then ((N 1)) else (if x1 = (3 : Int32) then ((sp_X4_presentSeason N G)) else (if x1 = (4 : Int32) then ((sp_X4_weeksLeft N G)) else (if x1 = (5 : Int32) then ((sp_X4_sumOf5 N G)) else (if x1 = (6 : Int32) then ((sp_X4_sumOf6 N G)) else (if x1 = (7 : Int32) then ((sp_X4_placedGoods N G (1 : Int32))) else (if x1 = (8 : Int32) then ((-1 : Int32)) else (if x1 = (9 : Int32) then ((-1 : Int32)) else (if x1 = (10 : Int32) then ((-1 : Int32)) else (if x1 = (11 : Int32) then ((-1 : Int32)) else (if x1 = (12 : Int32) then ((-1 : Int32)) else (if x1 = (13 : Int32) then ((-1 : Int32)) else (if x1 = (14 : Int32) then ((-1 : Int32)) else (if x1 = (15 : Int32) then ((-1 : Int32)) else (if x1 = (16 : Int32) then ((-1 : Int32)) else (if x1 = (17 : Int32) then ((-1 : Int32)) else (if x1 = (18 : Int32) then ((-1 : Int32)) else (if x1 = (19 : Int32) then ((-1 : Int32)) else (if x1 = (20 : Int32) then ((N (2 + (ix (x1 - (20 : Int32)))))) else (if x1 = (21 : Int32) then ((N (2 + (ix (x1 - (20 : Int32)))))) else (if x1 = (22 : Int32) then ((N (2 + (ix (x1 - (20 : Int32)))))) else ((-1 : Int32))))))))))))))))))))))))
set_option maxHeartbeats 4000000 in
set_option maxRecDepth 100000 in
theorem c_X4_numberOfWarehouse (l : Launch) (D : va_G) (cI cC cW : ClassId) (t : Nat → Nat) (a : Nat → Nat) (N : Nat → Int32) (G : Nat → Int32) (x1 : Int32) (hsf : sfN N) : Met l yX4_numberOfWarehouse wsX4_numberOfWarehouse ({ frames := 3, cells := 0, slots := 0, locals := 64 }) (va_Pc [.ref (a 0), .int x1] (roP D (tyL cI cC cW) (wg cI a N G) t)) (vp_Si (fun r => r = sp_X4_numberOfWarehouse N G x1)) 0 0 (fun _ => False) := by
  refine Met.ofW (cc := cX4_numberOfWarehouse) (maxL := 2) (ret := (some .int)) (by decide) rfl ?_
  intro p e s m args below meth c s₁ B hml hv
  obtain ⟨rfl, hP, hK, hX⟩ := hv
  have hx := B.exec
  have hb := B.bytes
  have hr := B.returns
  have hts := atoms_spec (ws := wsX4_numberOfWarehouse) B.pre
  have hown : s.vm.findClass RX4 = some m.cls := findClass_of_methodNamed B.named
  have hlocks := B.notSynchronized
  have hS : va_S (fun _ => False) s.heap s.heap [] := va_S.rf
  have wd1 : (Cond.fieldLink RX4 59 "PickSlots$Warehouse" "goods" "I").before [.ref (a 0), .int x1].toArray s = true := hts _ (List.mem_of_getElem? (i := 1) rfl)
  have wd2 : (Cond.fieldLink RX4 63 "PickSlots$Warehouse" "week" "I").before [.ref (a 0), .int x1].toArray s = true := hts _ (List.mem_of_getElem? (i := 2) rfl)
  have wd3 : (Cond.fieldLink RX4 24 "PickSlots$Warehouse" "unitsInSlot" "[I").before [.ref (a 0), .int x1].toArray s = true := hts _ (List.mem_of_getElem? (i := 3) rfl)
  have wd4 : (Cond.fieldLink RX4 27 "PickSlots$Warehouse" "unitsInStore" "[I").before [.ref (a 0), .int x1].toArray s = true := hts _ (List.mem_of_getElem? (i := 4) rfl)
  have wd5 : (Cond.fieldLink RX4 41 "PickSlots$Warehouse" "settings" "[I").before [.ref (a 0), .int x1].toArray s = true := hts _ (List.mem_of_getElem? (i := 5) rfl)
  have hi4 : ∀ w ∈ wsX40, w ∈ wsX4_numberOfWarehouse := fun w h => List.mem_cons_of_mem _ (List.mem_append_right _ (h))
  have CF : CallFix p m c cX4_numberOfWarehouse 2 s [.ref (a 0), .int x1].toArray wsX4_numberOfWarehouse RX4 := ⟨hx, hb, hml, hown, hts⟩
  have hl := lv_entry ([.ref (a 0), .int x1]) (n := 2) (Nat.le_of_ble_eq_true rfl)
  rw [lg_entry_eq]
  generalize (lg_sl ([.ref (a 0), .int x1]) ++ List.replicate (2 - (lg_sl ([.ref (a 0), .int x1])).length) Slot.unset).toArray = ls at hl ⊢
  have hl : lv_has ls 2 [(0, .ref (a 0)), (1, .int x1)] := hl
  refine lv_iload_n hx hb dX4_numberOfWarehouse_0 rfl (lv_at hl 1 rfl) ?_
  by_cases c1_0 : x1 = (0 : Int32)
  · refine lv_tableIn (tgt := 108) hx hb dX4_numberOfWarehouse_1 (by rw [c1_0]; decide) (by rw [c1_0]; decide) (by rw [c1_0]; rfl) (by decide) ?_
    refine lv_aload_n hx hb dX4_numberOfWarehouse_108 rfl (lv_at hl 0 rfl) ?_
    refine va_get (D := D) (ci := 3) (C := RX4) (T := TX4) (N := 13) hx hb hts hi4 hown hK hP 0 wg_0 rfl 11 (by decide) wd1 (fun _ h9 => h9) rfl dX4_numberOfWarehouse_109 ?_
    exact ro_ret hx hb hr (Eq.trans (if_pos c1_0) (rfl)) dX4_numberOfWarehouse_112 hlocks
  · by_cases c1_1 : x1 = (1 : Int32)
    · refine lv_tableIn (tgt := 113) hx hb dX4_numberOfWarehouse_1 (by rw [c1_1]; decide) (by rw [c1_1]; decide) (by rw [c1_1]; rfl) (by decide) ?_
      refine lv_aload_n hx hb dX4_numberOfWarehouse_113 rfl (lv_at hl 0 rfl) ?_
      refine lv_iconst (v := 0) hx hb dX4_numberOfWarehouse_114 (by decide) ?_
      refine roV CF (c_X4_placedGoods l D cI cC cW t _ _ _ _ (by first | (with_reducible first | assumption | exact g20 (by assumption) (by assumption) | exact sl60 (by assumption) | exact s4 (by assumption)) | (unfold vp_in; decide))) (cwV 1 hts gX4_numberOfWarehouse_X4_placedGoods rfl rfl rfl (by decide +kernel) ⟨Nat.le_of_ble_eq_true rfl, Nat.le_of_ble_eq_true rfl⟩) hP hK hX hS 0 3 wg_0 rfl rfl hl.1 rfl (Nat.le_of_ble_eq_true rfl) dX4_numberOfWarehouse_115 ⟨Nat.zero_le _, Nat.zero_le _⟩ ?_
      exact ro_ret hx hb hr (Eq.trans (if_neg c1_0) (Eq.trans (if_pos c1_1) (rfl))) dX4_numberOfWarehouse_118 hlocks
    · by_cases c1_2 : x1 = (2 : Int32)
      · refine lv_tableIn (tgt := 119) hx hb dX4_numberOfWarehouse_1 (by rw [c1_2]; decide) (by rw [c1_2]; decide) (by rw [c1_2]; rfl) (by decide) ?_
        refine lv_aload_n hx hb dX4_numberOfWarehouse_119 rfl (lv_at hl 0 rfl) ?_
        refine va_get (D := D) (ci := 3) (C := RX4) (T := TX4) (N := 13) hx hb hts hi4 hown hK hP 0 wg_0 rfl 12 (by decide) wd2 (fun _ h9 => h9) rfl dX4_numberOfWarehouse_120 ?_
        exact ro_ret hx hb hr (Eq.trans (if_neg c1_0) (Eq.trans (if_neg c1_1) (Eq.trans (if_pos c1_2) (rfl)))) dX4_numberOfWarehouse_123 hlocks
      · by_cases c1_3 : x1 = (3 : Int32)
        · refine lv_tableIn (tgt := 124) hx hb dX4_numberOfWarehouse_1 (by rw [c1_3]; decide) (by rw [c1_3]; decide) (by rw [c1_3]; rfl) (by decide) ?_
          refine lv_aload_n hx hb dX4_numberOfWarehouse_124 rfl (lv_at hl 0 rfl) ?_
          refine roV CF (c_X4_presentSeason l D cI cC cW t _ _ _  ) (cwV 0 hts gX4_numberOfWarehouse_X4_presentSeason rfl rfl rfl (by decide +kernel) ⟨Nat.le_of_ble_eq_true rfl, Nat.le_of_ble_eq_true rfl⟩) hP hK hX hS 0 3 wg_0 rfl rfl hl.1 rfl (Nat.le_of_ble_eq_true rfl) dX4_numberOfWarehouse_125 ⟨Nat.zero_le _, Nat.zero_le _⟩ ?_
          exact ro_ret hx hb hr (Eq.trans (if_neg c1_0) (Eq.trans (if_neg c1_1) (Eq.trans (if_neg c1_2) (Eq.trans (if_pos c1_3) (rfl))))) dX4_numberOfWarehouse_128 hlocks
        · by_cases c1_4 : x1 = (4 : Int32)
          · refine lv_tableIn (tgt := 129) hx hb dX4_numberOfWarehouse_1 (by rw [c1_4]; decide) (by rw [c1_4]; decide) (by rw [c1_4]; rfl) (by decide) ?_
            refine lv_aload_n hx hb dX4_numberOfWarehouse_129 rfl (lv_at hl 0 rfl) ?_
            refine roV CF (c_X4_weeksLeft l D cI cC cW t _ _ _  ) (cwV 0 hts gX4_numberOfWarehouse_X4_weeksLeft rfl rfl rfl (by decide +kernel) ⟨Nat.le_of_ble_eq_true rfl, Nat.le_of_ble_eq_true rfl⟩) hP hK hX hS 0 3 wg_0 rfl rfl hl.1 rfl (Nat.le_of_ble_eq_true rfl) dX4_numberOfWarehouse_130 ⟨Nat.zero_le _, Nat.zero_le _⟩ ?_
            exact ro_ret hx hb hr (Eq.trans (if_neg c1_0) (Eq.trans (if_neg c1_1) (Eq.trans (if_neg c1_2) (Eq.trans (if_neg c1_3) (Eq.trans (if_pos c1_4) (rfl)))))) dX4_numberOfWarehouse_133 hlocks
          · by_cases c1_5 : x1 = (5 : Int32)
            · refine lv_tableIn (tgt := 134) hx hb dX4_numberOfWarehouse_1 (by rw [c1_5]; decide) (by rw [c1_5]; decide) (by rw [c1_5]; rfl) (by decide) ?_
              refine lv_aload_n hx hb dX4_numberOfWarehouse_134 rfl (lv_at hl 0 rfl) ?_
              refine lv_aload_n hx hb dX4_numberOfWarehouse_135 rfl (lv_at hl 0 rfl) ?_
              refine va_get (D := D) (ci := 3) (C := RX4) (T := TX4) (N := 13) hx hb hts hi4 hown hK hP 0 wg_0 rfl 4 (by decide) wd3 (fun _ h9 => h9) rfl dX4_numberOfWarehouse_136 ?_
              refine roV CF (c_X4_sumOf5 l D cI cC cW t _ _ _  (by first | (with_reducible first | assumption | exact g20 (by assumption) (by assumption) | exact sl60 (by assumption) | exact s4 (by assumption)) | (unfold vp_in; decide))) (cwV 1 hts gX4_numberOfWarehouse_X4_sumOf rfl rfl rfl (by decide +kernel) ⟨Nat.le_of_ble_eq_true rfl, Nat.le_of_ble_eq_true rfl⟩) hP hK hX hS 0 3 wg_0 rfl rfl hl.1 rfl (Nat.le_of_ble_eq_true rfl) dX4_numberOfWarehouse_139 ⟨Nat.zero_le _, Nat.zero_le _⟩ ?_
              exact ro_ret hx hb hr (Eq.trans (if_neg c1_0) (Eq.trans (if_neg c1_1) (Eq.trans (if_neg c1_2) (Eq.trans (if_neg c1_3) (Eq.trans (if_neg c1_4) (Eq.trans (if_pos c1_5) (rfl))))))) dX4_numberOfWarehouse_142 hlocks
            · by_cases c1_6 : x1 = (6 : Int32)
              · refine lv_tableIn (tgt := 143) hx hb dX4_numberOfWarehouse_1 (by rw [c1_6]; decide) (by rw [c1_6]; decide) (by rw [c1_6]; rfl) (by decide) ?_
                refine lv_aload_n hx hb dX4_numberOfWarehouse_143 rfl (lv_at hl 0 rfl) ?_
                refine lv_aload_n hx hb dX4_numberOfWarehouse_144 rfl (lv_at hl 0 rfl) ?_
                refine va_get (D := D) (ci := 3) (C := RX4) (T := TX4) (N := 13) hx hb hts hi4 hown hK hP 0 wg_0 rfl 5 (by decide) wd4 (fun _ h9 => h9) rfl dX4_numberOfWarehouse_145 ?_
                refine roV CF (c_X4_sumOf6 l D cI cC cW t _ _ _  (by first | (with_reducible first | assumption | exact g20 (by assumption) (by assumption) | exact sl60 (by assumption) | exact s4 (by assumption)) | (unfold vp_in; decide))) (cwV 1 hts gX4_numberOfWarehouse_X4_sumOf rfl rfl rfl (by decide +kernel) ⟨Nat.le_of_ble_eq_true rfl, Nat.le_of_ble_eq_true rfl⟩) hP hK hX hS 0 3 wg_0 rfl rfl hl.1 rfl (Nat.le_of_ble_eq_true rfl) dX4_numberOfWarehouse_148 ⟨Nat.zero_le _, Nat.zero_le _⟩ ?_
                exact ro_ret hx hb hr (Eq.trans (if_neg c1_0) (Eq.trans (if_neg c1_1) (Eq.trans (if_neg c1_2) (Eq.trans (if_neg c1_3) (Eq.trans (if_neg c1_4) (Eq.trans (if_neg c1_5) (Eq.trans (if_pos c1_6) (rfl)))))))) dX4_numberOfWarehouse_151 hlocks
              · by_cases c1_7 : x1 = (7 : Int32)
                · refine lv_tableIn (tgt := 152) hx hb dX4_numberOfWarehouse_1 (by rw [c1_7]; decide) (by rw [c1_7]; decide) (by rw [c1_7]; rfl) (by decide) ?_
                  refine lv_aload_n hx hb dX4_numberOfWarehouse_152 rfl (lv_at hl 0 rfl) ?_
                  refine lv_iconst (v := 1) hx hb dX4_numberOfWarehouse_153 (by decide) ?_
                  refine roV CF (c_X4_placedGoods l D cI cC cW t _ _ _ _ (by first | (with_reducible first | assumption | exact g20 (by assumption) (by assumption) | exact sl60 (by assumption) | exact s4 (by assumption)) | (unfold vp_in; decide))) (cwV 1 hts gX4_numberOfWarehouse_X4_placedGoods rfl rfl rfl (by decide +kernel) ⟨Nat.le_of_ble_eq_true rfl, Nat.le_of_ble_eq_true rfl⟩) hP hK hX hS 0 3 wg_0 rfl rfl hl.1 rfl (Nat.le_of_ble_eq_true rfl) dX4_numberOfWarehouse_154 ⟨Nat.zero_le _, Nat.zero_le _⟩ ?_
                  exact ro_ret hx hb hr (Eq.trans (if_neg c1_0) (Eq.trans (if_neg c1_1) (Eq.trans (if_neg c1_2) (Eq.trans (if_neg c1_3) (Eq.trans (if_neg c1_4) (Eq.trans (if_neg c1_5) (Eq.trans (if_neg c1_6) (Eq.trans (if_pos c1_7) (rfl))))))))) dX4_numberOfWarehouse_157 hlocks
                · by_cases c1_8 : x1 = (8 : Int32)
                  · refine lv_tableIn (tgt := 168) hx hb dX4_numberOfWarehouse_1 (by rw [c1_8]; decide) (by rw [c1_8]; decide) (by rw [c1_8]; rfl) (by decide) ?_
                    refine lv_iconst (v := -1) hx hb dX4_numberOfWarehouse_168 (by decide) ?_
                    exact ro_ret hx hb hr (Eq.trans (if_neg c1_0) (Eq.trans (if_neg c1_1) (Eq.trans (if_neg c1_2) (Eq.trans (if_neg c1_3) (Eq.trans (if_neg c1_4) (Eq.trans (if_neg c1_5) (Eq.trans (if_neg c1_6) (Eq.trans (if_neg c1_7) (Eq.trans (if_pos c1_8) (rfl)))))))))) dX4_numberOfWarehouse_169 hlocks
                  · by_cases c1_9 : x1 = (9 : Int32)
                    · refine lv_tableIn (tgt := 168) hx hb dX4_numberOfWarehouse_1 (by rw [c1_9]; decide) (by rw [c1_9]; decide) (by rw [c1_9]; rfl) (by decide) ?_
                      refine lv_iconst (v := -1) hx hb dX4_numberOfWarehouse_168 (by decide) ?_
                      exact ro_ret hx hb hr (Eq.trans (if_neg c1_0) (Eq.trans (if_neg c1_1) (Eq.trans (if_neg c1_2) (Eq.trans (if_neg c1_3) (Eq.trans (if_neg c1_4) (Eq.trans (if_neg c1_5) (Eq.trans (if_neg c1_6) (Eq.trans (if_neg c1_7) (Eq.trans (if_neg c1_8) (Eq.trans (if_pos c1_9) (rfl))))))))))) dX4_numberOfWarehouse_169 hlocks
                    · by_cases c1_10 : x1 = (10 : Int32)
                      · refine lv_tableIn (tgt := 168) hx hb dX4_numberOfWarehouse_1 (by rw [c1_10]; decide) (by rw [c1_10]; decide) (by rw [c1_10]; rfl) (by decide) ?_
                        refine lv_iconst (v := -1) hx hb dX4_numberOfWarehouse_168 (by decide) ?_
                        exact ro_ret hx hb hr (Eq.trans (if_neg c1_0) (Eq.trans (if_neg c1_1) (Eq.trans (if_neg c1_2) (Eq.trans (if_neg c1_3) (Eq.trans (if_neg c1_4) (Eq.trans (if_neg c1_5) (Eq.trans (if_neg c1_6) (Eq.trans (if_neg c1_7) (Eq.trans (if_neg c1_8) (Eq.trans (if_neg c1_9) (Eq.trans (if_pos c1_10) (rfl)))))))))))) dX4_numberOfWarehouse_169 hlocks
                      · by_cases c1_11 : x1 = (11 : Int32)
                        · refine lv_tableIn (tgt := 168) hx hb dX4_numberOfWarehouse_1 (by rw [c1_11]; decide) (by rw [c1_11]; decide) (by rw [c1_11]; rfl) (by decide) ?_
                          refine lv_iconst (v := -1) hx hb dX4_numberOfWarehouse_168 (by decide) ?_
                          exact ro_ret hx hb hr (Eq.trans (if_neg c1_0) (Eq.trans (if_neg c1_1) (Eq.trans (if_neg c1_2) (Eq.trans (if_neg c1_3) (Eq.trans (if_neg c1_4) (Eq.trans (if_neg c1_5) (Eq.trans (if_neg c1_6) (Eq.trans (if_neg c1_7) (Eq.trans (if_neg c1_8) (Eq.trans (if_neg c1_9) (Eq.trans (if_neg c1_10) (Eq.trans (if_pos c1_11) (rfl))))))))))))) dX4_numberOfWarehouse_169 hlocks
                        · by_cases c1_12 : x1 = (12 : Int32)
                          · refine lv_tableIn (tgt := 168) hx hb dX4_numberOfWarehouse_1 (by rw [c1_12]; decide) (by rw [c1_12]; decide) (by rw [c1_12]; rfl) (by decide) ?_
                            refine lv_iconst (v := -1) hx hb dX4_numberOfWarehouse_168 (by decide) ?_
                            exact ro_ret hx hb hr (Eq.trans (if_neg c1_0) (Eq.trans (if_neg c1_1) (Eq.trans (if_neg c1_2) (Eq.trans (if_neg c1_3) (Eq.trans (if_neg c1_4) (Eq.trans (if_neg c1_5) (Eq.trans (if_neg c1_6) (Eq.trans (if_neg c1_7) (Eq.trans (if_neg c1_8) (Eq.trans (if_neg c1_9) (Eq.trans (if_neg c1_10) (Eq.trans (if_neg c1_11) (Eq.trans (if_pos c1_12) (rfl)))))))))))))) dX4_numberOfWarehouse_169 hlocks
                          · by_cases c1_13 : x1 = (13 : Int32)
                            · refine lv_tableIn (tgt := 168) hx hb dX4_numberOfWarehouse_1 (by rw [c1_13]; decide) (by rw [c1_13]; decide) (by rw [c1_13]; rfl) (by decide) ?_
                              refine lv_iconst (v := -1) hx hb dX4_numberOfWarehouse_168 (by decide) ?_
                              exact ro_ret hx hb hr (Eq.trans (if_neg c1_0) (Eq.trans (if_neg c1_1) (Eq.trans (if_neg c1_2) (Eq.trans (if_neg c1_3) (Eq.trans (if_neg c1_4) (Eq.trans (if_neg c1_5) (Eq.trans (if_neg c1_6) (Eq.trans (if_neg c1_7) (Eq.trans (if_neg c1_8) (Eq.trans (if_neg c1_9) (Eq.trans (if_neg c1_10) (Eq.trans (if_neg c1_11) (Eq.trans (if_neg c1_12) (Eq.trans (if_pos c1_13) (rfl))))))))))))))) dX4_numberOfWarehouse_169 hlocks
                            · by_cases c1_14 : x1 = (14 : Int32)
                              · refine lv_tableIn (tgt := 168) hx hb dX4_numberOfWarehouse_1 (by rw [c1_14]; decide) (by rw [c1_14]; decide) (by rw [c1_14]; rfl) (by decide) ?_
                                refine lv_iconst (v := -1) hx hb dX4_numberOfWarehouse_168 (by decide) ?_
                                exact ro_ret hx hb hr (Eq.trans (if_neg c1_0) (Eq.trans (if_neg c1_1) (Eq.trans (if_neg c1_2) (Eq.trans (if_neg c1_3) (Eq.trans (if_neg c1_4) (Eq.trans (if_neg c1_5) (Eq.trans (if_neg c1_6) (Eq.trans (if_neg c1_7) (Eq.trans (if_neg c1_8) (Eq.trans (if_neg c1_9) (Eq.trans (if_neg c1_10) (Eq.trans (if_neg c1_11) (Eq.trans (if_neg c1_12) (Eq.trans (if_neg c1_13) (Eq.trans (if_pos c1_14) (rfl)))))))))))))))) dX4_numberOfWarehouse_169 hlocks
                              · by_cases c1_15 : x1 = (15 : Int32)
                                · refine lv_tableIn (tgt := 168) hx hb dX4_numberOfWarehouse_1 (by rw [c1_15]; decide) (by rw [c1_15]; decide) (by rw [c1_15]; rfl) (by decide) ?_
                                  refine lv_iconst (v := -1) hx hb dX4_numberOfWarehouse_168 (by decide) ?_
                                  exact ro_ret hx hb hr (Eq.trans (if_neg c1_0) (Eq.trans (if_neg c1_1) (Eq.trans (if_neg c1_2) (Eq.trans (if_neg c1_3) (Eq.trans (if_neg c1_4) (Eq.trans (if_neg c1_5) (Eq.trans (if_neg c1_6) (Eq.trans (if_neg c1_7) (Eq.trans (if_neg c1_8) (Eq.trans (if_neg c1_9) (Eq.trans (if_neg c1_10) (Eq.trans (if_neg c1_11) (Eq.trans (if_neg c1_12) (Eq.trans (if_neg c1_13) (Eq.trans (if_neg c1_14) (Eq.trans (if_pos c1_15) (rfl))))))))))))))))) dX4_numberOfWarehouse_169 hlocks
                                · by_cases c1_16 : x1 = (16 : Int32)
                                  · refine lv_tableIn (tgt := 168) hx hb dX4_numberOfWarehouse_1 (by rw [c1_16]; decide) (by rw [c1_16]; decide) (by rw [c1_16]; rfl) (by decide) ?_
                                    refine lv_iconst (v := -1) hx hb dX4_numberOfWarehouse_168 (by decide) ?_
                                    exact ro_ret hx hb hr (Eq.trans (if_neg c1_0) (Eq.trans (if_neg c1_1) (Eq.trans (if_neg c1_2) (Eq.trans (if_neg c1_3) (Eq.trans (if_neg c1_4) (Eq.trans (if_neg c1_5) (Eq.trans (if_neg c1_6) (Eq.trans (if_neg c1_7) (Eq.trans (if_neg c1_8) (Eq.trans (if_neg c1_9) (Eq.trans (if_neg c1_10) (Eq.trans (if_neg c1_11) (Eq.trans (if_neg c1_12) (Eq.trans (if_neg c1_13) (Eq.trans (if_neg c1_14) (Eq.trans (if_neg c1_15) (Eq.trans (if_pos c1_16) (rfl)))))))))))))))))) dX4_numberOfWarehouse_169 hlocks
                                  · by_cases c1_17 : x1 = (17 : Int32)
                                    · refine lv_tableIn (tgt := 168) hx hb dX4_numberOfWarehouse_1 (by rw [c1_17]; decide) (by rw [c1_17]; decide) (by rw [c1_17]; rfl) (by decide) ?_
                                      refine lv_iconst (v := -1) hx hb dX4_numberOfWarehouse_168 (by decide) ?_
                                      exact ro_ret hx hb hr (Eq.trans (if_neg c1_0) (Eq.trans (if_neg c1_1) (Eq.trans (if_neg c1_2) (Eq.trans (if_neg c1_3) (Eq.trans (if_neg c1_4) (Eq.trans (if_neg c1_5) (Eq.trans (if_neg c1_6) (Eq.trans (if_neg c1_7) (Eq.trans (if_neg c1_8) (Eq.trans (if_neg c1_9) (Eq.trans (if_neg c1_10) (Eq.trans (if_neg c1_11) (Eq.trans (if_neg c1_12) (Eq.trans (if_neg c1_13) (Eq.trans (if_neg c1_14) (Eq.trans (if_neg c1_15) (Eq.trans (if_neg c1_16) (Eq.trans (if_pos c1_17) (rfl))))))))))))))))))) dX4_numberOfWarehouse_169 hlocks
                                    · by_cases c1_18 : x1 = (18 : Int32)
                                      · refine lv_tableIn (tgt := 168) hx hb dX4_numberOfWarehouse_1 (by rw [c1_18]; decide) (by rw [c1_18]; decide) (by rw [c1_18]; rfl) (by decide) ?_
                                        refine lv_iconst (v := -1) hx hb dX4_numberOfWarehouse_168 (by decide) ?_
                                        exact ro_ret hx hb hr (Eq.trans (if_neg c1_0) (Eq.trans (if_neg c1_1) (Eq.trans (if_neg c1_2) (Eq.trans (if_neg c1_3) (Eq.trans (if_neg c1_4) (Eq.trans (if_neg c1_5) (Eq.trans (if_neg c1_6) (Eq.trans (if_neg c1_7) (Eq.trans (if_neg c1_8) (Eq.trans (if_neg c1_9) (Eq.trans (if_neg c1_10) (Eq.trans (if_neg c1_11) (Eq.trans (if_neg c1_12) (Eq.trans (if_neg c1_13) (Eq.trans (if_neg c1_14) (Eq.trans (if_neg c1_15) (Eq.trans (if_neg c1_16) (Eq.trans (if_neg c1_17) (Eq.trans (if_pos c1_18) (rfl)))))))))))))))))))) dX4_numberOfWarehouse_169 hlocks
                                      · by_cases c1_19 : x1 = (19 : Int32)
                                        · refine lv_tableIn (tgt := 168) hx hb dX4_numberOfWarehouse_1 (by rw [c1_19]; decide) (by rw [c1_19]; decide) (by rw [c1_19]; rfl) (by decide) ?_
                                          refine lv_iconst (v := -1) hx hb dX4_numberOfWarehouse_168 (by decide) ?_
                                          exact ro_ret hx hb hr (Eq.trans (if_neg c1_0) (Eq.trans (if_neg c1_1) (Eq.trans (if_neg c1_2) (Eq.trans (if_neg c1_3) (Eq.trans (if_neg c1_4) (Eq.trans (if_neg c1_5) (Eq.trans (if_neg c1_6) (Eq.trans (if_neg c1_7) (Eq.trans (if_neg c1_8) (Eq.trans (if_neg c1_9) (Eq.trans (if_neg c1_10) (Eq.trans (if_neg c1_11) (Eq.trans (if_neg c1_12) (Eq.trans (if_neg c1_13) (Eq.trans (if_neg c1_14) (Eq.trans (if_neg c1_15) (Eq.trans (if_neg c1_16) (Eq.trans (if_neg c1_17) (Eq.trans (if_neg c1_18) (Eq.trans (if_pos c1_19) (rfl))))))))))))))))))))) dX4_numberOfWarehouse_169 hlocks
                                        · by_cases c1_20 : x1 = (20 : Int32)
                                          · refine lv_tableIn (tgt := 158) hx hb dX4_numberOfWarehouse_1 (by rw [c1_20]; decide) (by rw [c1_20]; decide) (by rw [c1_20]; rfl) (by decide) ?_
                                            refine lv_aload_n hx hb dX4_numberOfWarehouse_158 rfl (lv_at hl 0 rfl) ?_
                                            refine va_get (D := D) (ci := 3) (C := RX4) (T := TX4) (N := 13) hx hb hts hi4 hown hK hP 0 wg_0 rfl 9 (by decide) wd5 (fun _ h9 => h9) rfl dX4_numberOfWarehouse_159 ?_
                                            refine lv_iload_n hx hb dX4_numberOfWarehouse_162 rfl (lv_at hl 1 rfl) ?_
                                            refine lv_bipush (v := 20) hx hb dX4_numberOfWarehouse_163 (by decide) ?_
                                            refine lv_isub hx hb dX4_numberOfWarehouse_165 ?_
                                            refine va_iald hx hb hK hP 10 0 wg_10 rfl (sub20 (by first | exact Or.inl (by assumption) | exact Or.inr (Or.inl (by assumption)) | exact Or.inr (Or.inr (by assumption)))) dX4_numberOfWarehouse_166 ?_
                                            refine lv_top_eq (wg_rd10 (sub20 (by first | exact Or.inl (by assumption) | exact Or.inr (Or.inl (by assumption)) | exact Or.inr (Or.inr (by assumption))))) ?_
                                            exact ro_ret hx hb hr (Eq.trans (if_neg c1_0) (Eq.trans (if_neg c1_1) (Eq.trans (if_neg c1_2) (Eq.trans (if_neg c1_3) (Eq.trans (if_neg c1_4) (Eq.trans (if_neg c1_5) (Eq.trans (if_neg c1_6) (Eq.trans (if_neg c1_7) (Eq.trans (if_neg c1_8) (Eq.trans (if_neg c1_9) (Eq.trans (if_neg c1_10) (Eq.trans (if_neg c1_11) (Eq.trans (if_neg c1_12) (Eq.trans (if_neg c1_13) (Eq.trans (if_neg c1_14) (Eq.trans (if_neg c1_15) (Eq.trans (if_neg c1_16) (Eq.trans (if_neg c1_17) (Eq.trans (if_neg c1_18) (Eq.trans (if_neg c1_19) (Eq.trans (if_pos c1_20) (rfl)))))))))))))))))))))) dX4_numberOfWarehouse_167 hlocks
                                          · by_cases c1_21 : x1 = (21 : Int32)
                                            · refine lv_tableIn (tgt := 158) hx hb dX4_numberOfWarehouse_1 (by rw [c1_21]; decide) (by rw [c1_21]; decide) (by rw [c1_21]; rfl) (by decide) ?_
                                              refine lv_aload_n hx hb dX4_numberOfWarehouse_158 rfl (lv_at hl 0 rfl) ?_
                                              refine va_get (D := D) (ci := 3) (C := RX4) (T := TX4) (N := 13) hx hb hts hi4 hown hK hP 0 wg_0 rfl 9 (by decide) wd5 (fun _ h9 => h9) rfl dX4_numberOfWarehouse_159 ?_
                                              refine lv_iload_n hx hb dX4_numberOfWarehouse_162 rfl (lv_at hl 1 rfl) ?_
                                              refine lv_bipush (v := 20) hx hb dX4_numberOfWarehouse_163 (by decide) ?_
                                              refine lv_isub hx hb dX4_numberOfWarehouse_165 ?_
                                              refine va_iald hx hb hK hP 10 0 wg_10 rfl (sub20 (by first | exact Or.inl (by assumption) | exact Or.inr (Or.inl (by assumption)) | exact Or.inr (Or.inr (by assumption)))) dX4_numberOfWarehouse_166 ?_
                                              refine lv_top_eq (wg_rd10 (sub20 (by first | exact Or.inl (by assumption) | exact Or.inr (Or.inl (by assumption)) | exact Or.inr (Or.inr (by assumption))))) ?_
                                              exact ro_ret hx hb hr (Eq.trans (if_neg c1_0) (Eq.trans (if_neg c1_1) (Eq.trans (if_neg c1_2) (Eq.trans (if_neg c1_3) (Eq.trans (if_neg c1_4) (Eq.trans (if_neg c1_5) (Eq.trans (if_neg c1_6) (Eq.trans (if_neg c1_7) (Eq.trans (if_neg c1_8) (Eq.trans (if_neg c1_9) (Eq.trans (if_neg c1_10) (Eq.trans (if_neg c1_11) (Eq.trans (if_neg c1_12) (Eq.trans (if_neg c1_13) (Eq.trans (if_neg c1_14) (Eq.trans (if_neg c1_15) (Eq.trans (if_neg c1_16) (Eq.trans (if_neg c1_17) (Eq.trans (if_neg c1_18) (Eq.trans (if_neg c1_19) (Eq.trans (if_neg c1_20) (Eq.trans (if_pos c1_21) (rfl))))))))))))))))))))))) dX4_numberOfWarehouse_167 hlocks
                                            · by_cases c1_22 : x1 = (22 : Int32)
                                              · refine lv_tableIn (tgt := 158) hx hb dX4_numberOfWarehouse_1 (by rw [c1_22]; decide) (by rw [c1_22]; decide) (by rw [c1_22]; rfl) (by decide) ?_
                                                refine lv_aload_n hx hb dX4_numberOfWarehouse_158 rfl (lv_at hl 0 rfl) ?_
                                                refine va_get (D := D) (ci := 3) (C := RX4) (T := TX4) (N := 13) hx hb hts hi4 hown hK hP 0 wg_0 rfl 9 (by decide) wd5 (fun _ h9 => h9) rfl dX4_numberOfWarehouse_159 ?_
                                                refine lv_iload_n hx hb dX4_numberOfWarehouse_162 rfl (lv_at hl 1 rfl) ?_
                                                refine lv_bipush (v := 20) hx hb dX4_numberOfWarehouse_163 (by decide) ?_
                                                refine lv_isub hx hb dX4_numberOfWarehouse_165 ?_
                                                refine va_iald hx hb hK hP 10 0 wg_10 rfl (sub20 (by first | exact Or.inl (by assumption) | exact Or.inr (Or.inl (by assumption)) | exact Or.inr (Or.inr (by assumption)))) dX4_numberOfWarehouse_166 ?_
                                                refine lv_top_eq (wg_rd10 (sub20 (by first | exact Or.inl (by assumption) | exact Or.inr (Or.inl (by assumption)) | exact Or.inr (Or.inr (by assumption))))) ?_
                                                exact ro_ret hx hb hr (Eq.trans (if_neg c1_0) (Eq.trans (if_neg c1_1) (Eq.trans (if_neg c1_2) (Eq.trans (if_neg c1_3) (Eq.trans (if_neg c1_4) (Eq.trans (if_neg c1_5) (Eq.trans (if_neg c1_6) (Eq.trans (if_neg c1_7) (Eq.trans (if_neg c1_8) (Eq.trans (if_neg c1_9) (Eq.trans (if_neg c1_10) (Eq.trans (if_neg c1_11) (Eq.trans (if_neg c1_12) (Eq.trans (if_neg c1_13) (Eq.trans (if_neg c1_14) (Eq.trans (if_neg c1_15) (Eq.trans (if_neg c1_16) (Eq.trans (if_neg c1_17) (Eq.trans (if_neg c1_18) (Eq.trans (if_neg c1_19) (Eq.trans (if_neg c1_20) (Eq.trans (if_neg c1_21) (Eq.trans (if_pos c1_22) (rfl)))))))))))))))))))))))) dX4_numberOfWarehouse_167 hlocks
                                              · refine lv_tableOut (tgt := 168) hx hb dX4_numberOfWarehouse_1 (by have q0 := lv_neT c1_0 (a := 0) (by decide); have q1 := lv_neT c1_1 (a := 1) (by decide); have q2 := lv_neT c1_2 (a := 2) (by decide); have q3 := lv_neT c1_3 (a := 3) (by decide); have q4 := lv_neT c1_4 (a := 4) (by decide); have q5 := lv_neT c1_5 (a := 5) (by decide); have q6 := lv_neT c1_6 (a := 6) (by decide); have q7 := lv_neT c1_7 (a := 7) (by decide); have q8 := lv_neT c1_8 (a := 8) (by decide); have q9 := lv_neT c1_9 (a := 9) (by decide); have q10 := lv_neT c1_10 (a := 10) (by decide); have q11 := lv_neT c1_11 (a := 11) (by decide); have q12 := lv_neT c1_12 (a := 12) (by decide); have q13 := lv_neT c1_13 (a := 13) (by decide); have q14 := lv_neT c1_14 (a := 14) (by decide); have q15 := lv_neT c1_15 (a := 15) (by decide); have q16 := lv_neT c1_16 (a := 16) (by decide); have q17 := lv_neT c1_17 (a := 17) (by decide); have q18 := lv_neT c1_18 (a := 18) (by decide); have q19 := lv_neT c1_19 (a := 19) (by decide); have q20 := lv_neT c1_20 (a := 20) (by decide); have q21 := lv_neT c1_21 (a := 21) (by decide); have q22 := lv_neT c1_22 (a := 22) (by decide); omega) (by decide) ?_
                                                refine lv_iconst (v := -1) hx hb dX4_numberOfWarehouse_168 (by decide) ?_
                                                exact ro_ret hx hb hr (Eq.trans (if_neg c1_0) (Eq.trans (if_neg c1_1) (Eq.trans (if_neg c1_2) (Eq.trans (if_neg c1_3) (Eq.trans (if_neg c1_4) (Eq.trans (if_neg c1_5) (Eq.trans (if_neg c1_6) (Eq.trans (if_neg c1_7) (Eq.trans (if_neg c1_8) (Eq.trans (if_neg c1_9) (Eq.trans (if_neg c1_10) (Eq.trans (if_neg c1_11) (Eq.trans (if_neg c1_12) (Eq.trans (if_neg c1_13) (Eq.trans (if_neg c1_14) (Eq.trans (if_neg c1_15) (Eq.trans (if_neg c1_16) (Eq.trans (if_neg c1_17) (Eq.trans (if_neg c1_18) (Eq.trans (if_neg c1_19) (Eq.trans (if_neg c1_20) (Eq.trans (if_neg c1_21) (Eq.trans (if_neg c1_22) (rfl)))))))))))))))))))))))) dX4_numberOfWarehouse_169 hlocks
