/-! the best of a warehouse (printed by wip/whole/m12.py) -/
def sp_X4_numberOfBest (N : Nat → Int32) (G : Nat → Int32) (x1 : Int32) : Int32 :=
  if (sp_X5_isIn x1 (0 : Int32) (2 : Int32)) = 0 then ((-1 : Int32)) else (if 0 ≤ (sp_X4_bestGoing N G) then (if x1 = 0 then (((sp_X4_bestGoing N G) / (60 : Int32))) else (if x1 = (1 : Int32) then (((sp_X4_bestGoing N G) - (sp_X4_bestGoing N G) / (60 : Int32) * (60 : Int32))) else ((sp_X4_worthOfGoing N G ((sp_X4_bestGoing N G) / (60 : Int32)) ((sp_X4_bestGoing N G) - (sp_X4_bestGoing N G) / (60 : Int32) * (60 : Int32)))))) else ((-4 : Int32)))
set_option maxHeartbeats 4000000 in
set_option maxRecDepth 100000 in
theorem c_X4_numberOfBest (l : Launch) (D : va_G) (cI cC cW : ClassId) (t : Nat → Nat) (a : Nat → Nat) (N : Nat → Int32) (G : Nat → Int32) (x1 : Int32) (hsf : sfN N) : Met l yX4_numberOfBest wsX4_numberOfBest ({ frames := 5, cells := 0, slots := 0, locals := 106 }) (va_Pc [.ref (a 0), .int x1] (roP D (tyL cI cC cW) (wg cI a N G) t)) (vp_Si (fun r => r = sp_X4_numberOfBest N G x1)) 0 0 (fun _ => False) := by
  refine Met.ofW (cc := cX4_numberOfBest) (maxL := 5) (ret := (some .int)) (by decide) rfl ?_
  intro p e s m args below meth c s₁ B hml hv
  obtain ⟨rfl, hP, hK, hX⟩ := hv
  have hx := B.exec
  have hb := B.bytes
  have hr := B.returns
  have hts := atoms_spec (ws := wsX4_numberOfBest) B.pre
  have hown : s.vm.findClass RX4 = some m.cls := findClass_of_methodNamed B.named
  have hlocks := B.notSynchronized
  have hS : va_S (fun _ => False) s.heap s.heap [] := va_S.rf
  have wd2 : (Cond.initialized RX5).before [.ref (a 0), .int x1].toArray s = true := hts _ (List.mem_of_getElem? (i := 2) rfl)
  have wd1 : (Cond.static yX5_isIn).before [.ref (a 0), .int x1].toArray s = true := hts _ (List.mem_of_getElem? (i := 1) rfl)
  have CF : CallFix p m c cX4_numberOfBest 5 s [.ref (a 0), .int x1].toArray wsX4_numberOfBest RX4 := ⟨hx, hb, hml, hown, hts⟩
  have hl := lv_entry ([.ref (a 0), .int x1]) (n := 5) (Nat.le_of_ble_eq_true rfl)
  rw [lg_entry_eq]
  generalize (lg_sl ([.ref (a 0), .int x1]) ++ List.replicate (5 - (lg_sl ([.ref (a 0), .int x1])).length) Slot.unset).toArray = ls at hl ⊢
  have hl : lv_has ls 5 [(0, .ref (a 0)), (1, .int x1)] := hl
  refine lv_iload_n hx hb dX4_numberOfBest_0 rfl (lv_at hl 1 rfl) ?_
  refine lv_iconst (v := 0) hx hb dX4_numberOfBest_1 (by decide) ?_
  refine lv_iconst (v := 2) hx hb dX4_numberOfBest_2 (by decide) ?_
  refine roSN CF (c_X5_isIn l D cI cC cW t _ _ _ ) (va_cnB 3 hts gX4_numberOfBest_X5_isIn_n86 rfl rfl rfl (hX.1.2 ("PickSlots$Warehouse", 86, yX5_isIn) (List.mem_of_getElem? (i := 3) rfl)) wd2 (by decide +kernel) ⟨Nat.le_of_ble_eq_true rfl, Nat.le_of_ble_eq_true rfl⟩) wd1 vP_nil hK hX hS rfl hl.1 rfl (Nat.le_of_ble_eq_true rfl) dX4_numberOfBest_3 ⟨Nat.zero_le _, Nat.zero_le _⟩ ?_
  refine lv_if_ne (tgt := 11) hx hb dX4_numberOfBest_6 (by decide) (fun c6 => ?_) (fun c6 => ?_)
  · refine lv_aload_n hx hb dX4_numberOfBest_11 rfl (lv_at hl 0 rfl) ?_
    refine roV CF (c_X4_bestGoing l D cI cC cW t _ _ _  (hsf)) (cwV 0 hts gX4_numberOfBest_X4_bestGoing rfl rfl rfl (by decide +kernel) ⟨Nat.le_of_ble_eq_true rfl, Nat.le_of_ble_eq_true rfl⟩) hP hK hX hS 0 3 wg_0 rfl rfl hl.1 rfl (Nat.le_of_ble_eq_true rfl) dX4_numberOfBest_12 ⟨Nat.zero_le _, Nat.zero_le _⟩ ?_
    refine lv_istore_n (lv' := [(2, .int _), (0, .ref _), (1, .int _)]) hx hb dX4_numberOfBest_15 rfl hl (by decide) rfl (fun ls hl => ?_)
    refine lv_iload_n hx hb dX4_numberOfBest_16 rfl (lv_at hl 0 rfl) ?_
    refine lv_if_ge (tgt := 23) hx hb dX4_numberOfBest_17 (by decide) (fun c17 => ?_) (fun c17 => ?_)
    · refine lv_iload_n hx hb dX4_numberOfBest_23 rfl (lv_at hl 0 rfl) ?_
      refine lv_bipush (v := 60) hx hb dX4_numberOfBest_24 (by decide) ?_
      refine lv_idiv hx hb dX4_numberOfBest_26 (by first | assumption | decide) ?_
      refine lv_istore_n (lv' := [(3, .int _), (2, .int _), (0, .ref _), (1, .int _)]) hx hb dX4_numberOfBest_27 rfl hl (by decide) rfl (fun ls hl => ?_)
      refine lv_iload_n hx hb dX4_numberOfBest_28 rfl (lv_at hl 1 rfl) ?_
      refine lv_bipush (v := 60) hx hb dX4_numberOfBest_29 (by decide) ?_
      refine lv_irem hx hb dX4_numberOfBest_31 (by first | assumption | decide) ?_
      refine lv_istore (lv' := [(4, .int _), (3, .int _), (2, .int _), (0, .ref _), (1, .int _)]) hx hb dX4_numberOfBest_32 hl (by decide) rfl (fun ls hl => ?_)
      refine lv_iload_n hx hb dX4_numberOfBest_34 rfl (lv_at hl 4 rfl) ?_
      refine lv_if_ne (tgt := 40) hx hb dX4_numberOfBest_35 (by decide) (fun c35 => ?_) (fun c35 => ?_)
      · refine lv_iload_n hx hb dX4_numberOfBest_40 rfl (lv_at hl 4 rfl) ?_
        refine lv_iconst (v := 1) hx hb dX4_numberOfBest_41 (by decide) ?_
        refine lv_icmp_ne (tgt := 50) hx hb dX4_numberOfBest_42 (by decide) (fun c42 => ?_) (fun c42 => ?_)
        · refine lv_aload_n hx hb dX4_numberOfBest_50 rfl (lv_at hl 3 rfl) ?_
          refine lv_iload_n hx hb dX4_numberOfBest_51 rfl (lv_at hl 1 rfl) ?_
          refine lv_iload hx hb dX4_numberOfBest_52 (lv_at hl 0 rfl) ?_
          refine roV CF (c_X4_worthOfGoing l D cI cC cW t _ _ _ _ _ (hsf) (bg_g (bg hsf) (nn_of_ge c17)) (bg_s (bg hsf) (nn_of_ge c17))) (cwV 2 hts gX4_numberOfBest_X4_worthOfGoing rfl rfl rfl (by decide +kernel) ⟨Nat.le_of_ble_eq_true rfl, Nat.le_of_ble_eq_true rfl⟩) hP hK hX hS 0 3 wg_0 rfl rfl hl.1 rfl (Nat.le_of_ble_eq_true rfl) dX4_numberOfBest_54 ⟨Nat.zero_le _, Nat.zero_le _⟩ ?_
          exact ro_ret hx hb hr (Eq.trans (if_neg c6) (Eq.trans (if_pos c17) (Eq.trans (if_neg c35) (Eq.trans (if_neg c42) (rfl))))) dX4_numberOfBest_57 hlocks
        · refine lv_iload hx hb dX4_numberOfBest_45 (lv_at hl 0 rfl) ?_
          refine lv_goto (tgt := 57) hx hb dX4_numberOfBest_47 (by decide) ?_
          exact ro_ret hx hb hr (Eq.trans (if_neg c6) (Eq.trans (if_pos c17) (Eq.trans (if_neg c35) (Eq.trans (if_pos c42) (rfl))))) dX4_numberOfBest_57 hlocks
      · refine lv_iload_n hx hb dX4_numberOfBest_38 rfl (lv_at hl 1 rfl) ?_
        exact ro_ret hx hb hr (Eq.trans (if_neg c6) (Eq.trans (if_pos c17) (Eq.trans (if_pos c35) (rfl)))) dX4_numberOfBest_39 hlocks
    · refine lv_bipush (v := -4) hx hb dX4_numberOfBest_20 (by decide) ?_
      exact ro_ret hx hb hr (Eq.trans (if_neg c6) (Eq.trans (if_neg c17) (rfl))) dX4_numberOfBest_22 hlocks
  · refine lv_iconst (v := -1) hx hb dX4_numberOfBest_9 (by decide) ?_
    exact ro_ret hx hb hr (Eq.trans (if_pos c6) (rfl)) dX4_numberOfBest_10 hlocks

def lp19_X4_doBest (x1 : Int32) : Nat → Int32 → Int32 → (Nat → Int32) → (Nat → Int32) → Int32 × ((Nat → Int32) × (Nat → Int32))
  | 0, v2, v3, Nw, Gw => (0, (Nw, Gw))
  | n + 1, v2, v3, Nw, Gw => if x1 ≤ v2 then (if v2 = 0 then (((-4 : Int32), (Nw, Gw))) else ((v2, (Nw, Gw)))) else (if v3 < 0 then (if v2 = 0 then (((-4 : Int32), (Nw, Gw))) else ((v2, (Nw, Gw)))) else (let k37_101 : Int32 × ((Nat → Int32) × (Nat → Int32)) := sp_X4_goTo Nw Gw (v3 / (60 : Int32)) (v3 - v3 / (60 : Int32) * (60 : Int32)); let N102 : Nat → Int32 := k37_101.2.1; let G103 : Nat → Int32 := k37_101.2.2; lp19_X4_doBest x1 n (v2 + (1 : Int32)) (sp_X4_bestGoing N102 G103) N102 G103))
theorem lp19_X4_doBest_s (x1 : Int32) (n : Nat) (v2 : Int32) (v3 : Int32) (Nw : Nat → Int32) (Gw : Nat → Int32) : lp19_X4_doBest x1 (n + 1) v2 v3 Nw Gw = if x1 ≤ v2 then (if v2 = 0 then (((-4 : Int32), (Nw, Gw))) else ((v2, (Nw, Gw)))) else (if v3 < 0 then (if v2 = 0 then (((-4 : Int32), (Nw, Gw))) else ((v2, (Nw, Gw)))) else (let k37_101 : Int32 × ((Nat → Int32) × (Nat → Int32)) := sp_X4_goTo Nw Gw (v3 / (60 : Int32)) (v3 - v3 / (60 : Int32) * (60 : Int32)); let N102 : Nat → Int32 := k37_101.2.1; let G103 : Nat → Int32 := k37_101.2.2; lp19_X4_doBest x1 n (v2 + (1 : Int32)) (sp_X4_bestGoing N102 G103) N102 G103)) := rfl
def sp_X4_doBest (N : Nat → Int32) (G : Nat → Int32) (x1 : Int32) : Int32 × ((Nat → Int32) × (Nat → Int32)) :=
  if (sp_X5_isIn x1 (1 : Int32) (10 : Int32)) = 0 then (((-1 : Int32), (N, G))) else (lp19_X4_doBest x1 11 (0 : Int32) (sp_X4_bestGoing N G) N G)
set_option maxHeartbeats 4000000 in
set_option maxRecDepth 100000 in
theorem c_X4_doBest (l : Launch) (D : va_G) (cI cC cW : ClassId) (t : Nat → Nat) (a : Nat → Nat) (sz : Nat) (N : Nat → Int32) (G : Nat → Int32) (x1 : Int32) (hsf : sfN N) : Met l yX4_doBest wsX4_doBest ({ frames := 5, cells := 0, slots := 0, locals := 106 }) (va_Pc [.ref (a 0), .int x1] (rwP D (tyL cI cC cW) (wg cI a N G) t sz)) (va_Qi (fun (r : Int32) (u : ((Nat → Int32) × (Nat → Int32))) => (r, u) = sp_X4_doBest N G x1) (fun u => rwB D (va_A (wg cI a N G) sz) (wg cI a u.1 u.2)) (va_A (wg cI a N G) sz)) 0 0 (va_A (wg cI a N G) sz) := by
  refine Met.ofW (cc := cX4_doBest) (maxL := 4) (ret := (some .int)) (by decide) rfl ?_
  intro p e s m args below meth c s₁ B hml hv
  obtain ⟨rfl, hsz, hP, hK, hD0, hX⟩ := hv
  have hx := B.exec
  have hb := B.bytes
  have hr := B.returns
  have hts := atoms_spec (ws := wsX4_doBest) B.pre
  have hown : s.vm.findClass RX4 = some m.cls := findClass_of_methodNamed B.named
  have hlocks := B.notSynchronized
  subst hsz
  have hD := hD0.self (sz := s.heap.size)
  generalize hAe : va_A (wg cI a N G) s.heap.size = A at hD hX ⊢
  have hA : ∀ q : Nat, s.heap.size ≤ q → A q := fun q h => by rw [← hAe]; exact Or.inr h
  have hS : va_S A s.heap s.heap [] := va_S.rf
  have wd2 : (Cond.initialized RX5).before [.ref (a 0), .int x1].toArray s = true := hts _ (List.mem_of_getElem? (i := 2) rfl)
  have wd1 : (Cond.static yX5_isIn).before [.ref (a 0), .int x1].toArray s = true := hts _ (List.mem_of_getElem? (i := 1) rfl)
  have CF : CallFix p m c cX4_doBest 4 s [.ref (a 0), .int x1].toArray wsX4_doBest RX4 := ⟨hx, hb, hml, hown, hts⟩
  have hl := lv_entry ([.ref (a 0), .int x1]) (n := 4) (Nat.le_of_ble_eq_true rfl)
  rw [lg_entry_eq]
  generalize (lg_sl ([.ref (a 0), .int x1]) ++ List.replicate (4 - (lg_sl ([.ref (a 0), .int x1])).length) Slot.unset).toArray = ls at hl ⊢
  have hl : lv_has ls 4 [(0, .ref (a 0)), (1, .int x1)] := hl
  refine lv_iload_n hx hb dX4_doBest_0 rfl (lv_at hl 1 rfl) ?_
  refine lv_iconst (v := 1) hx hb dX4_doBest_1 (by decide) ?_
  refine lv_bipush (v := 10) hx hb dX4_doBest_2 (by decide) ?_
  refine roSN CF (c_X5_isIn l D cI cC cW t _ _ _ ) (va_cnB 3 hts gX4_doBest_X5_isIn_n86 rfl rfl rfl (hX.1.2 ("PickSlots$Warehouse", 86, yX5_isIn) (List.mem_of_getElem? (i := 3) rfl)) wd2 (by decide +kernel) ⟨Nat.le_of_ble_eq_true rfl, Nat.le_of_ble_eq_true rfl⟩) wd1 vP_nil hK hX hS rfl hl.1 rfl (Nat.le_of_ble_eq_true rfl) dX4_doBest_4 ⟨Nat.zero_le _, Nat.zero_le _⟩ ?_
  refine lv_if_ne (tgt := 12) hx hb dX4_doBest_7 (by decide) (fun c7 => ?_) (fun c7 => ?_)
  · refine lv_iconst (v := 0) hx hb dX4_doBest_12 (by decide) ?_
    refine lv_istore_n (lv' := [(2, .int _), (0, .ref _), (1, .int _)]) hx hb dX4_doBest_13 rfl hl (by decide) rfl (fun ls hl => ?_)
    refine lv_aload_n hx hb dX4_doBest_14 rfl (lv_at hl 1 rfl) ?_
    refine roV CF (c_X4_bestGoing l D cI cC cW t _ _ _  (hsf)) (cwV 0 hts gX4_doBest_X4_bestGoing rfl rfl rfl (by decide +kernel) ⟨Nat.le_of_ble_eq_true rfl, Nat.le_of_ble_eq_true rfl⟩) hP hK hX hS 0 3 wg_0 rfl rfl hl.1 rfl (Nat.le_of_ble_eq_true rfl) dX4_doBest_15 ⟨Nat.zero_le _, Nat.zero_le _⟩ ?_
    refine lv_istore_n (lv' := [(3, .int _), (2, .int _), (0, .ref _), (1, .int _)]) hx hb dX4_doBest_18 rfl hl (by decide) rfl (fun ls hl => ?_)
    have L19 : ∀ (n19 : Nat) (v2 v3 : Int32) (Nw : Nat → Int32) (Gw : Nat → Int32), (sfN Nw) → (bgP Nw Gw v3) → (0 ≤ v2.toInt) → (v2.toInt ≤ x1.toInt) → (x1.toInt - v2.toInt < (n19 : Int)) → sp_X4_doBest N G x1 = lp19_X4_doBest x1 (n19) v2 v3 Nw Gw → ∀ (ls : Array Slot), lv_has ls 4 [(2, .int v2), (3, .int v3), (0, .ref (a 0)), (1, .int x1)] → ∀ (H : Heap) (locs : List Loc), va_P D vwCl (wg cI a Nw Gw) H → va_D A (wg cI a Nw Gw) → va_S A s.heap H locs → W p l e (headSpec wsX4_doBest ({ frames := 5, cells := 0, slots := 0, locals := 106 } : Room)).room s m [.ref (a 0), .int x1].toArray below meth c H locs 0 0 (MQ below (va_Qi (fun (r : Int32) (u : ((Nat → Int32) × (Nat → Int32))) => (r, u) = sp_X4_doBest N G x1) (fun u => rwB D A (wg cI a u.1 u.2)) A) [.ref (a 0), .int x1].toArray s 0 0 A) (F0 m 19 ls []) := by
      intro n19
      induction n19 with
      | zero => intro v2 v3 Nw Gw hsw hbw i1 i2 im; exfalso; omega
      | succ n19 ih19 =>
        intro v2 v3 Nw Gw hsw hbw i1 i2 im hsp19 ls hl H locs hP hD hS
        refine lv_iload_n hx hb dX4_doBest_19 rfl (lv_at hl 0 rfl) ?_
        refine lv_iload_n hx hb dX4_doBest_20 rfl (lv_at hl 3 rfl) ?_
        refine lv_icmp_ge (tgt := 52) hx hb dX4_doBest_21 (by decide) (fun c21 => ?_) (fun c21 => ?_)
        · refine lv_iload_n hx hb dX4_doBest_52 rfl (lv_at hl 0 rfl) ?_
          refine lv_if_ne (tgt := 61) hx hb dX4_doBest_53 (by decide) (fun c53 => ?_) (fun c53 => ?_)
          · refine lv_iload_n hx hb dX4_doBest_61 rfl (lv_at hl 0 rfl) ?_
            exact rw_ret (_, _) hx hb hr hP hD hS (Eq.trans hsp19 (Eq.trans (lp19_X4_doBest_s _ _ _ _ _ _) (Eq.trans (if_pos c21) (Eq.trans (if_neg c53) (rfl))))) dX4_doBest_62 hlocks
          · refine lv_bipush (v := -4) hx hb dX4_doBest_56 (by decide) ?_
            refine lv_goto (tgt := 62) hx hb dX4_doBest_58 (by decide) ?_
            exact rw_ret (_, _) hx hb hr hP hD hS (Eq.trans hsp19 (Eq.trans (lp19_X4_doBest_s _ _ _ _ _ _) (Eq.trans (if_pos c21) (Eq.trans (if_pos c53) (rfl))))) dX4_doBest_62 hlocks
        · refine lv_iload_n hx hb dX4_doBest_24 rfl (lv_at hl 1 rfl) ?_
          refine lv_if_lt (tgt := 52) hx hb dX4_doBest_25 (by decide) (fun c25 => ?_) (fun c25 => ?_)
          · refine lv_iload_n hx hb dX4_doBest_52 rfl (lv_at hl 0 rfl) ?_
            refine lv_if_ne (tgt := 61) hx hb dX4_doBest_53 (by decide) (fun c53 => ?_) (fun c53 => ?_)
            · refine lv_iload_n hx hb dX4_doBest_61 rfl (lv_at hl 0 rfl) ?_
              exact rw_ret (_, _) hx hb hr hP hD hS (Eq.trans hsp19 (Eq.trans (lp19_X4_doBest_s _ _ _ _ _ _) (Eq.trans (if_neg c21) (Eq.trans (if_pos c25) (Eq.trans (if_neg c53) (rfl)))))) dX4_doBest_62 hlocks
            · refine lv_bipush (v := -4) hx hb dX4_doBest_56 (by decide) ?_
              refine lv_goto (tgt := 62) hx hb dX4_doBest_58 (by decide) ?_
              exact rw_ret (_, _) hx hb hr hP hD hS (Eq.trans hsp19 (Eq.trans (lp19_X4_doBest_s _ _ _ _ _ _) (Eq.trans (if_neg c21) (Eq.trans (if_pos c25) (Eq.trans (if_pos c53) (rfl)))))) dX4_doBest_62 hlocks
          · refine lv_aload_n hx hb dX4_doBest_28 rfl (lv_at hl 2 rfl) ?_
            refine lv_iload_n hx hb dX4_doBest_29 rfl (lv_at hl 1 rfl) ?_
            refine lv_bipush (v := 60) hx hb dX4_doBest_30 (by decide) ?_
            refine lv_idiv hx hb dX4_doBest_32 (by first | assumption | decide) ?_
            refine lv_iload_n hx hb dX4_doBest_33 rfl (lv_at hl 1 rfl) ?_
            refine lv_bipush (v := 60) hx hb dX4_doBest_34 (by decide) ?_
            refine lv_irem hx hb dX4_doBest_36 (by first | assumption | decide) ?_
            refine rwV CF (c_X4_goTo l D cI cC cW t _ _ _ _ _ _ (hsw) (bg_g hbw c25) (bg_s hbw c25) (bg_c hbw c25)) (cwV 2 hts gX4_doBest_X4_goTo rfl rfl rfl (by decide +kernel) ⟨Nat.le_of_ble_eq_true rfl, Nat.le_of_ble_eq_true rfl⟩) hP hD hK hX hS hA 0 3 wg_0 rfl rfl hl.1 rfl (Nat.le_of_ble_eq_true rfl) dX4_doBest_37 ⟨Nat.zero_le _, Nat.zero_le _⟩ (fun H locs hP hD hS => ?_)
            refine lv_pop hx hb dX4_doBest_40 rfl ?_
            refine lv_iinc (v := _ + (1 : Int32)) (lv' := [(2, .int _), (3, .int _), (0, .ref _), (1, .int _)]) hx hb dX4_doBest_41 hl (k := 0) rfl rfl (by decide) rfl (fun ls hl => ?_)
            refine lv_aload_n hx hb dX4_doBest_44 rfl (lv_at hl 2 rfl) ?_
            refine roV CF (c_X4_bestGoing l D cI cC cW t _ _ _  (k3_sf k3_goTo hsw)) (cwV 0 hts gX4_doBest_X4_bestGoing rfl rfl rfl (by decide +kernel) ⟨Nat.le_of_ble_eq_true rfl, Nat.le_of_ble_eq_true rfl⟩) hP hK hX hS 0 3 wg_0 rfl rfl hl.1 rfl (Nat.le_of_ble_eq_true rfl) dX4_doBest_45 ⟨Nat.zero_le _, Nat.zero_le _⟩ ?_
            refine lv_istore_n (lv' := [(3, .int _), (2, .int _), (0, .ref _), (1, .int _)]) hx hb dX4_doBest_48 rfl hl (by decide) rfl (fun ls hl => ?_)
            refine lv_goto (tgt := 19) hx hb dX4_doBest_49 (by decide) ?_
            exact ih19 _ _ _ _ (k3_sf k3_goTo hsw) (bg (k3_sf k3_goTo hsw)) (cs1 i1 c21) (cs2 c21) (csm c21 im) (Eq.trans hsp19 (Eq.trans (lp19_X4_doBest_s _ _ _ _ _ _) (Eq.trans (if_neg c21) (Eq.trans (if_neg c25) (rfl))))) _ (lv_sub hl [1, 0, 2, 3] rfl) _ _ hP hD hS
    exact L19 11 _ _ _ _ (hsf) (bg hsf) (by decide) (in10a c7) (in10b c7) (Eq.trans (if_neg c7) (rfl)) _ (lv_sub hl [1, 0, 2, 3] rfl) _ _ hP hD hS
  · refine lv_iconst (v := -1) hx hb dX4_doBest_10 (by decide) ?_
    exact rw_ret (_, _) hx hb hr hP hD hS (Eq.trans (if_pos c7) (rfl)) dX4_doBest_11 hlocks
