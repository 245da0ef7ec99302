/-! the model: the orders of a text done (printed by wip/whole/m9.py) -/
def lp7_X6_doesAll  : Nat → Int32 → (Nat → Int32) → (Nat → Nat → Int32) → Int32 × ((Nat → Int32) × (Nat → Nat → Int32))
  | 0, v1, Nw, Zw => (0, (Nw, Zw))
  | n + 1, v1, Nw, Zw => if (Zw 0 1) ≤ v1 then (((0 : Int32), (Nw, Zw))) else (let Z102 : Nat → Nat → Int32 := zu Zw 0 10 v1; let k22_103 : Int32 × (Nat → Nat → Int32) := sp_X6_reads Nw Z102 v1; let Z104 : Nat → Nat → Int32 := k22_103.2; if k22_103.1 = 0 then (((1 : Int32), (Nw, Z104))) else (if (sp_X6_isThere Nw Z104) = 0 then (((2 : Int32), (Nw, Z104))) else (if (sp_X6_can Nw Z104) = 0 then (((3 : Int32), (Nw, Z104))) else (let k49_105 : Nat → Int32 := sp_X6_does Nw Z104; let Z106 : Nat → Nat → Int32 := zu Z104 0 9 ((Z104 0 9) + (1 : Int32)); lp7_X6_doesAll  n (Z106 0 5) k49_105 Z106))))
theorem lp7_X6_doesAll_s  (n : Nat) (v1 : Int32) (Nw : Nat → Int32) (Zw : Nat → Nat → Int32) : lp7_X6_doesAll  (n + 1) v1 Nw Zw = if (Zw 0 1) ≤ v1 then (((0 : Int32), (Nw, Zw))) else (let Z102 : Nat → Nat → Int32 := zu Zw 0 10 v1; let k22_103 : Int32 × (Nat → Nat → Int32) := sp_X6_reads Nw Z102 v1; let Z104 : Nat → Nat → Int32 := k22_103.2; if k22_103.1 = 0 then (((1 : Int32), (Nw, Z104))) else (if (sp_X6_isThere Nw Z104) = 0 then (((2 : Int32), (Nw, Z104))) else (if (sp_X6_can Nw Z104) = 0 then (((3 : Int32), (Nw, Z104))) else (let k49_105 : Nat → Int32 := sp_X6_does Nw Z104; let Z106 : Nat → Nat → Int32 := zu Z104 0 9 ((Z104 0 9) + (1 : Int32)); lp7_X6_doesAll  n (Z106 0 5) k49_105 Z106)))) := rfl
def sp_X6_doesAll (N : Nat → Int32) (Z : Nat → Nat → Int32) : Int32 × ((Nat → Int32) × (Nat → Nat → Int32)) :=
  let Z1 : Nat → Nat → Int32 := zu Z 0 9 (0 : Int32); lp7_X6_doesAll  61 (0 : Int32) N Z1
set_option maxHeartbeats 4000000 in
set_option maxRecDepth 100000 in
theorem c_X6_doesAll (l : Launch) (D : va_G) (cI cC cW : ClassId) (t : Nat → Nat) (a : Nat → Nat) (sz : Nat) (N : Nat → Int32) (Z : Nat → Nat → Int32) (hsf : sfN N) (hld : ¬ N 3 = 0) (hty : tyZ Z) : Met l yX6_doesAll wsX6_doesAll ({ frames := 5, cells := 0, slots := 0, locals := 115 }) (va_Pc [.ref (a 0)] (rwP D (tyL cI cC cW) (md cI a N Z) t sz)) (va_Qi (fun (r : Int32) (u : ((Nat → Int32) × (Nat → Nat → Int32))) => (r, u) = sp_X6_doesAll N Z) (fun u => rwB D (va_A (md cI a N Z) sz) (md cI a u.1 u.2)) (va_A (md cI a N Z) sz)) 0 0 (va_A (md cI a N Z) sz) := by
  refine Met.ofW (cc := cX6_doesAll) (maxL := 2) (ret := (some .int)) (by decide) rfl ?_
  intro p e s m args below meth c s₁ B hml hv
  obtain ⟨rfl, hsz, hP, hK, hD0, hX⟩ := hv
  have hx := B.exec
  have hb := B.bytes
  have hr := B.returns
  have hts := atoms_spec (ws := wsX6_doesAll) B.pre
  have hown : s.vm.findClass RX6 = some m.cls := findClass_of_methodNamed B.named
  have hlocks := B.notSynchronized
  subst hsz
  have hD := hD0.self (sz := s.heap.size)
  generalize hAe : va_A (md cI a N Z) s.heap.size = A at hD hX ⊢
  have hA : ∀ q : Nat, s.heap.size ≤ q → A q := fun q h => by rw [← hAe]; exact Or.inr h
  have hS : va_S A s.heap s.heap [] := va_S.rf
  have wd1 : (Cond.fieldLink RX6 177 "PickSlotsModel" "orders" "I").before [.ref (a 0)].toArray s = true := hts _ (List.mem_of_getElem? (i := 1) rfl)
  have wd2 : (Cond.fieldLink RX6 156 "PickSlotsModel" "typed" "I").before [.ref (a 0)].toArray s = true := hts _ (List.mem_of_getElem? (i := 2) rfl)
  have wd3 : (Cond.fieldLink RX6 180 "PickSlotsModel" "faultAt" "I").before [.ref (a 0)].toArray s = true := hts _ (List.mem_of_getElem? (i := 3) rfl)
  have wd4 : (Cond.fieldLink RX6 159 "PickSlotsModel" "at" "I").before [.ref (a 0)].toArray s = true := hts _ (List.mem_of_getElem? (i := 4) rfl)
  have hi6 : ∀ w ∈ wsX60, w ∈ wsX6_doesAll := fun w h => List.mem_cons_of_mem _ (List.mem_append_right _ (h))
  have CF : CallFix p m c cX6_doesAll 2 s [.ref (a 0)].toArray wsX6_doesAll RX6 := ⟨hx, hb, hml, hown, hts⟩
  have hl := lv_entry ([.ref (a 0)]) (n := 2) (Nat.le_of_ble_eq_true rfl)
  rw [lg_entry_eq]
  generalize (lg_sl ([.ref (a 0)]) ++ List.replicate (2 - (lg_sl ([.ref (a 0)])).length) Slot.unset).toArray = ls at hl ⊢
  have hl : lv_has ls 2 [(0, .ref (a 0))] := hl
  refine lv_iconst (v := 0) hx hb dX6_doesAll_0 (by decide) ?_
  refine lv_istore_n (lv' := [(1, .int _), (0, .ref _)]) hx hb dX6_doesAll_1 rfl hl (by decide) rfl (fun ls hl => ?_)
  refine lv_aload_n hx hb dX6_doesAll_2 rfl (lv_at hl 1 rfl) ?_
  refine lv_iconst (v := 0) hx hb dX6_doesAll_3 (by decide) ?_
  refine my_put (D := D) (ci := 5) (C := RX6) (T := TX6) (N := 17) (ty := .int) hx hb hts hi6 tyX6 tyX6_ok nmX6 hown hK hP hD hS 0 md_0 rfl 15 (by decide) wd1 (fun _ h9 => h9) rfl (by decide +kernel) rfl rfl (Nat.le_of_ble_eq_true rfl) (md_f15 _) dX6_doesAll_4 (fun H locs hP hD hS => ?_)
  have L7 : ∀ (n7 : Nat) (v1 : Int32) (Nw : Nat → Int32) (Zw : Nat → Nat → Int32), (sfN Nw) → (¬ Nw 3 = 0) → (tyZ Zw) → (0 ≤ v1.toInt) → (v1.toInt ≤ (Zw 0 1).toInt) → ((Zw 0 1).toInt - v1.toInt < (n7 : Int)) → sp_X6_doesAll N Z = lp7_X6_doesAll  (n7) v1 Nw Zw → ∀ (ls : Array Slot), lv_has ls 2 [(1, .int v1), (0, .ref (a 0))] → ∀ (H : Heap) (locs : List Loc), va_P D vwCl (md cI a Nw Zw) H → va_D A (md cI a Nw Zw) → va_S A s.heap H locs → W p l e (headSpec wsX6_doesAll ({ frames := 5, cells := 0, slots := 0, locals := 115 } : Room)).room s m [.ref (a 0)].toArray below meth c H locs 0 0 (MQ below (va_Qi (fun (r : Int32) (u : ((Nat → Int32) × (Nat → Nat → Int32))) => (r, u) = sp_X6_doesAll N Z) (fun u => rwB D A (md cI a u.1 u.2)) A) [.ref (a 0)].toArray s 0 0 A) (F0 m 7 ls []) := by
    intro n7
    induction n7 with
    | zero => intro v1 Nw Zw hsw hlw htw i1 i2 im; exfalso; omega
    | succ n7 ih7 =>
      intro v1 Nw Zw hsw hlw htw i1 i2 im hsp7 ls hl H locs hP hD hS
      refine lv_iload_n hx hb dX6_doesAll_7 rfl (lv_at hl 0 rfl) ?_
      refine lv_aload_n hx hb dX6_doesAll_8 rfl (lv_at hl 1 rfl) ?_
      refine va_get (D := D) (ci := 5) (C := RX6) (T := TX6) (N := 17) hx hb hts hi6 hown hK hP 0 md_0 rfl 5 (by decide) wd2 (fun _ h9 => h9) rfl dX6_doesAll_9 ?_
      refine lv_icmp_ge (tgt := 70) hx hb dX6_doesAll_12 (by decide) (fun c12 => ?_) (fun c12 => ?_)
      · refine lv_iconst (v := 0) hx hb dX6_doesAll_70 (by decide) ?_
        exact rwM_ret hx hb hr hP hD hS (Eq.trans hsp7 (Eq.trans (lp7_X6_doesAll_s _ _ _ _) (Eq.trans (if_pos c12) (rfl)))) dX6_doesAll_71 hlocks
      · refine lv_aload_n hx hb dX6_doesAll_15 rfl (lv_at hl 1 rfl) ?_
        refine lv_iload_n hx hb dX6_doesAll_16 rfl (lv_at hl 0 rfl) ?_
        refine my_put (D := D) (ci := 5) (C := RX6) (T := TX6) (N := 17) (ty := .int) hx hb hts hi6 tyX6 tyX6_ok nmX6 hown hK hP hD hS 0 md_0 rfl 16 (by decide) wd3 (fun _ h9 => h9) rfl (by decide +kernel) rfl rfl (Nat.le_of_ble_eq_true rfl) (md_f16 _) dX6_doesAll_17 (fun H locs hP hD hS => ?_)
        refine lv_aload_n hx hb dX6_doesAll_20 rfl (lv_at hl 1 rfl) ?_
        refine lv_iload_n hx hb dX6_doesAll_21 rfl (lv_at hl 0 rfl) ?_
        refine rwV CF (c_X6_reads l D cI cC cW t _ _ _ _ _ (i1) (da_60 htw c12) (ty_zu (by decide) htw)) (cwV 1 hts gX6_doesAll_X6_reads rfl rfl rfl (by decide +kernel) ⟨Nat.le_of_ble_eq_true rfl, Nat.le_of_ble_eq_true rfl⟩) hP hD hK hX hS hA 0 5 md_0 rfl rfl hl.1 rfl (Nat.le_of_ble_eq_true rfl) dX6_doesAll_22 ⟨Nat.zero_le _, Nat.zero_le _⟩ (fun H locs hP hD hS => ?_)
        refine lv_if_ne (tgt := 30) hx hb dX6_doesAll_25 (by decide) (fun c25 => ?_) (fun c25 => ?_)
        · refine lv_aload_n hx hb dX6_doesAll_30 rfl (lv_at hl 1 rfl) ?_
          refine roV CF (c_X6_isThere l D cI cC cW t _ _ _  ) (cwV 0 hts gX6_doesAll_X6_isThere rfl rfl rfl (by decide +kernel) ⟨Nat.le_of_ble_eq_true rfl, Nat.le_of_ble_eq_true rfl⟩) hP hK hX hS 0 5 md_0 rfl rfl hl.1 rfl (Nat.le_of_ble_eq_true rfl) dX6_doesAll_31 ⟨Nat.zero_le _, Nat.zero_le _⟩ ?_
          refine lv_if_ne (tgt := 39) hx hb dX6_doesAll_34 (by decide) (fun c34 => ?_) (fun c34 => ?_)
          · refine lv_aload_n hx hb dX6_doesAll_39 rfl (lv_at hl 1 rfl) ?_
            refine roV CF (c_X6_can l D cI cC cW t _ _ _  (hsw) (c34)) (cwV 0 hts gX6_doesAll_X6_can rfl rfl rfl (by decide +kernel) ⟨Nat.le_of_ble_eq_true rfl, Nat.le_of_ble_eq_true rfl⟩) hP hK hX hS 0 5 md_0 rfl rfl hl.1 rfl (Nat.le_of_ble_eq_true rfl) dX6_doesAll_40 ⟨Nat.zero_le _, Nat.zero_le _⟩ ?_
            refine lv_if_ne (tgt := 48) hx hb dX6_doesAll_43 (by decide) (fun c43 => ?_) (fun c43 => ?_)
            · refine lv_aload_n hx hb dX6_doesAll_48 rfl (lv_at hl 1 rfl) ?_
              refine rwVv CF (c_X6_does l D cI cC cW t _ _ _ _  (hsw) (c34) (c43) (hlw)) (cwV 0 hts gX6_doesAll_X6_does rfl rfl rfl (by decide +kernel) ⟨Nat.le_of_ble_eq_true rfl, Nat.le_of_ble_eq_true rfl⟩) hP hD hK hX hS hA 0 5 md_0 rfl rfl hl.1 rfl (Nat.le_of_ble_eq_true rfl) dX6_doesAll_49 ⟨Nat.zero_le _, Nat.zero_le _⟩ (fun H locs hP hD hS => ?_)
              refine lv_aload_n hx hb dX6_doesAll_52 rfl (lv_at hl 1 rfl) ?_
              refine lv_dup hx hb dX6_doesAll_53 rfl ?_
              refine va_get (D := D) (ci := 5) (C := RX6) (T := TX6) (N := 17) hx hb hts hi6 hown hK hP 0 md_0 rfl 15 (by decide) wd1 (fun _ h9 => h9) rfl dX6_doesAll_54 ?_
              refine lv_iconst (v := 1) hx hb dX6_doesAll_57 (by decide) ?_
              refine lv_iadd hx hb dX6_doesAll_58 ?_
              refine my_put (D := D) (ci := 5) (C := RX6) (T := TX6) (N := 17) (ty := .int) hx hb hts hi6 tyX6 tyX6_ok nmX6 hown hK hP hD hS 0 md_0 rfl 15 (by decide) wd1 (fun _ h9 => h9) rfl (by decide +kernel) rfl rfl (Nat.le_of_ble_eq_true rfl) (md_f15 _) dX6_doesAll_59 (fun H locs hP hD hS => ?_)
              refine lv_aload_n hx hb dX6_doesAll_62 rfl (lv_at hl 1 rfl) ?_
              refine va_get (D := D) (ci := 5) (C := RX6) (T := TX6) (N := 17) hx hb hts hi6 hown hK hP 0 md_0 rfl 11 (by decide) wd4 (fun _ h9 => h9) rfl dX6_doesAll_63 ?_
              refine lv_istore_n (lv' := [(1, .int _), (0, .ref _)]) hx hb dX6_doesAll_66 rfl hl (by decide) rfl (fun ls hl => ?_)
              refine lv_goto (tgt := 7) hx hb dX6_doesAll_67 (by decide) ?_
              exact ih7 _ _ _ ((does_k hsw c34 c43).1) (by rw [(does_k hsw c34 c43).2]; exact hlw) ((da_step htw i1 c12 c25).1) ((da_step htw i1 c12 c25).2.1) ((da_step htw i1 c12 c25).2.2.1) ((da_step htw i1 c12 c25).2.2.2 _ im) (Eq.trans hsp7 (Eq.trans (lp7_X6_doesAll_s _ _ _ _) (Eq.trans (if_neg c12) (Eq.trans (if_neg c25) (Eq.trans (if_neg c34) (Eq.trans (if_neg c43) (rfl))))))) _ (lv_sub hl [0, 1] rfl) _ _ hP hD hS
            · refine lv_iconst (v := 3) hx hb dX6_doesAll_46 (by decide) ?_
              exact rwM_ret hx hb hr hP hD hS (Eq.trans hsp7 (Eq.trans (lp7_X6_doesAll_s _ _ _ _) (Eq.trans (if_neg c12) (Eq.trans (if_neg c25) (Eq.trans (if_neg c34) (Eq.trans (if_pos c43) (rfl))))))) dX6_doesAll_47 hlocks
          · refine lv_iconst (v := 2) hx hb dX6_doesAll_37 (by decide) ?_
            exact rwM_ret hx hb hr hP hD hS (Eq.trans hsp7 (Eq.trans (lp7_X6_doesAll_s _ _ _ _) (Eq.trans (if_neg c12) (Eq.trans (if_neg c25) (Eq.trans (if_pos c34) (rfl)))))) dX6_doesAll_38 hlocks
        · refine lv_iconst (v := 1) hx hb dX6_doesAll_28 (by decide) ?_
          exact rwM_ret hx hb hr hP hD hS (Eq.trans hsp7 (Eq.trans (lp7_X6_doesAll_s _ _ _ _) (Eq.trans (if_neg c12) (Eq.trans (if_pos c25) (rfl))))) dX6_doesAll_29 hlocks
  exact L7 61 _ _ _ (hsf) (hld) (ty_zu (by decide) hty) (by decide) ((da_0 hty).1) ((da_0 hty).2) (rfl) _ (lv_sub hl [0, 1] rfl) _ _ hP hD hS
