/-! what changes a warehouse (printed by wip/whole/m3.py) -/
def sp_X4_standIn (N : Nat → Int32) (G : Nat → Int32) (x1 x2 : Int32) : ((Nat → Int32) × (Nat → Int32)) :=
  let N1 : Nat → Int32 := upd N (22 + 11 * (ix x1)) x2; let G2 : Nat → Int32 := upd G ((ix x2)) x1; (N1, G2)
set_option maxHeartbeats 4000000 in
set_option maxRecDepth 100000 in
theorem c_X4_standIn (l : Launch) (D : va_G) (cI cC cW : ClassId) (t : Nat → Nat) (a : Nat → Nat) (sz : Nat) (N : Nat → Int32) (G : Nat → Int32) (x1 x2 : Int32) (h1 : vp_in x1 20) (h2 : vp_in x2 60) : Met l yX4_standIn wsX4_standIn ({ frames := 0, cells := 0, slots := 0, locals := 0 }) (va_Pc [.ref (a 0), .int x1, .int x2] (rwP D (tyL cI cC cW) (wg cI a N G) t sz)) (va_Qv (fun (u : ((Nat → Int32) × (Nat → Int32))) => u = sp_X4_standIn N G x1 x2) (fun u => rwB D (va_A (wg cI a N G) sz) (wg cI a u.1 u.2)) (va_A (wg cI a N G) sz)) 0 0 (va_A (wg cI a N G) sz) := by
  refine Met.ofW (cc := cX4_standIn) (maxL := 3) (ret := none) (by decide) rfl ?_
  intro p e s m args below meth c s₁ B hml hv
  obtain ⟨rfl, hsz, hP, hK, hD0, hX⟩ := hv
  have hx := B.exec
  have hb := B.bytes
  have hr := B.returns
  have hts := atoms_spec (ws := wsX4_standIn) B.pre
  have hown : s.vm.findClass RX4 = some m.cls := findClass_of_methodNamed B.named
  have hlocks := B.notSynchronized
  subst hsz
  have hD := hD0.self (sz := s.heap.size)
  generalize hAe : va_A (wg cI a N G) s.heap.size = A at hD hX ⊢
  have hA : ∀ q : Nat, s.heap.size ≤ q → A q := fun q h => by rw [← hAe]; exact Or.inr h
  have hS : va_S A s.heap s.heap [] := va_S.rf
  have wd1 : (Cond.fieldLink RX4 21 "PickSlots$Warehouse" "slotOfGood" "[I").before [.ref (a 0), .int x1, .int x2].toArray s = true := hts _ (List.mem_of_getElem? (i := 1) rfl)
  have wd2 : (Cond.fieldLink RX4 38 "PickSlots$Warehouse" "goodInSlot" "[I").before [.ref (a 0), .int x1, .int x2].toArray s = true := hts _ (List.mem_of_getElem? (i := 2) rfl)
  have hi4 : ∀ w ∈ wsX40, w ∈ wsX4_standIn := fun w h => List.mem_cons_of_mem _ (List.mem_append_right _ (h))
  have hl := lv_entry ([.ref (a 0), .int x1, .int x2]) (n := 3) (Nat.le_of_ble_eq_true rfl)
  rw [lg_entry_eq]
  generalize (lg_sl ([.ref (a 0), .int x1, .int x2]) ++ List.replicate (3 - (lg_sl ([.ref (a 0), .int x1, .int x2])).length) Slot.unset).toArray = ls at hl ⊢
  have hl : lv_has ls 3 [(0, .ref (a 0)), (1, .int x1), (2, .int x2)] := hl
  refine lv_aload_n hx hb dX4_standIn_0 rfl (lv_at hl 0 rfl) ?_
  refine va_get (D := D) (ci := 3) (C := RX4) (T := TX4) (N := 13) hx hb hts hi4 hown hK hP 0 wg_0 rfl 3 (by decide) wd1 (fun _ h9 => h9) rfl dX4_standIn_1 ?_
  refine lv_iload_n hx hb dX4_standIn_4 rfl (lv_at hl 1 rfl) ?_
  refine lv_iload_n hx hb dX4_standIn_5 rfl (lv_at hl 2 rfl) ?_
  refine my_iast hx hb hK hP hD hS 4 0 wg_4 rfl (wg_s4 _ _) (by first | (with_reducible first | assumption | exact g20 (by assumption) (by assumption) | exact sl60 (by assumption) | exact pl60 (by assumption) | exact cg60 (by assumption) | exact sea4 (by assumption) | exact in3 (by assumption) | exact dm80 (by assumption) (by assumption) | exact s4 (by assumption)) | (with_reducible (repeat (refine sf_u (by omega) ?_)); assumption) | (simp (disch := omega) only [pk_un]; (with_reducible first | assumption | exact g20 (by assumption) (by assumption) | exact sl60 (by assumption) | exact pl60 (by assumption) | exact cg60 (by assumption) | exact sea4 (by assumption) | exact in3 (by assumption) | exact dm80 (by assumption) (by assumption) | exact s4 (by assumption))) | (unfold vp_in; decide)) dX4_standIn_6 (fun H locs hP hD hS => ?_)
  refine lv_aload_n hx hb dX4_standIn_7 rfl (lv_at hl 0 rfl) ?_
  refine va_get (D := D) (ci := 3) (C := RX4) (T := TX4) (N := 13) hx hb hts hi4 hown hK hP 0 wg_0 rfl 8 (by decide) wd2 (fun _ h9 => h9) rfl dX4_standIn_8 ?_
  refine lv_iload_n hx hb dX4_standIn_11 rfl (lv_at hl 2 rfl) ?_
  refine lv_iload_n hx hb dX4_standIn_12 rfl (lv_at hl 1 rfl) ?_
  refine my_iast hx hb hK hP hD hS 9 0 wg_9 rfl (wg_s9 _ _) (by first | (with_reducible first | assumption | exact g20 (by assumption) (by assumption) | exact sl60 (by assumption) | exact pl60 (by assumption) | exact cg60 (by assumption) | exact sea4 (by assumption) | exact in3 (by assumption) | exact dm80 (by assumption) (by assumption) | exact s4 (by assumption)) | (with_reducible (repeat (refine sf_u (by omega) ?_)); assumption) | (simp (disch := omega) only [pk_un]; (with_reducible first | assumption | exact g20 (by assumption) (by assumption) | exact sl60 (by assumption) | exact pl60 (by assumption) | exact cg60 (by assumption) | exact sea4 (by assumption) | exact in3 (by assumption) | exact dm80 (by assumption) (by assumption) | exact s4 (by assumption))) | (unfold vp_in; decide)) dX4_standIn_13 (fun H locs hP hD hS => ?_)
  exact rw_vret (_, _) hx hb hr hP hD hS (rfl) dX4_standIn_14 hlocks

def sp_X4_addGood (N : Nat → Int32) (G : Nat → Int32) (x1 x2 : Int32) : Int32 × ((Nat → Int32) × (Nat → Int32)) :=
  if (sp_X5_isIn x1 (1 : Int32) (40 : Int32)) = 0 then (((-1 : Int32), (N, G))) else (if (sp_X5_isIn x2 (1 : Int32) (200 : Int32)) = 0 then (((-1 : Int32), (N, G))) else (if (N 0) < (20 : Int32) then (let N1 : Nat → Int32 := upd N (16 + 11 * (ix (N 0))) x1; let N2 : Nat → Int32 := upd N1 (17 + 11 * (ix (N1 0))) x2; let N3 : Nat → Int32 := upd N2 (22 + 11 * (ix (N2 0))) (-1 : Int32); let N4 : Nat → Int32 := upd N3 (0) ((N3 0) + (1 : Int32)); (((N4 0) - (1 : Int32)), (N4, G))) else (((-3 : Int32), (N, G)))))
set_option maxHeartbeats 4000000 in
set_option maxRecDepth 100000 in
theorem c_X4_addGood (l : Launch) (D : va_G) (cI cC cW : ClassId) (t : Nat → Nat) (a : Nat → Nat) (sz : Nat) (N : Nat → Int32) (G : Nat → Int32) (x1 x2 : Int32) (hsf : sfN N) : Met l yX4_addGood wsX4_addGood ({ frames := 1, cells := 0, slots := 0, locals := 22 }) (va_Pc [.ref (a 0), .int x1, .int x2] (rwP D (tyL cI cC cW) (wg cI a N G) t sz)) (va_Qi (fun (r : Int32) (u : ((Nat → Int32) × (Nat → Int32))) => (r, u) = sp_X4_addGood N G x1 x2) (fun u => rwB D (va_A (wg cI a N G) sz) (wg cI a u.1 u.2)) (va_A (wg cI a N G) sz)) 0 0 (va_A (wg cI a N G) sz) := by
  refine Met.ofW (cc := cX4_addGood) (maxL := 3) (ret := (some .int)) (by decide) rfl ?_
  intro p e s m args below meth c s₁ B hml hv
  obtain ⟨rfl, hsz, hP, hK, hD0, hX⟩ := hv
  have hx := B.exec
  have hb := B.bytes
  have hr := B.returns
  have hts := atoms_spec (ws := wsX4_addGood) B.pre
  have hown : s.vm.findClass RX4 = some m.cls := findClass_of_methodNamed B.named
  have hlocks := B.notSynchronized
  subst hsz
  have hD := hD0.self (sz := s.heap.size)
  generalize hAe : va_A (wg cI a N G) s.heap.size = A at hD hX ⊢
  have hA : ∀ q : Nat, s.heap.size ≤ q → A q := fun q h => by rw [← hAe]; exact Or.inr h
  have hS : va_S A s.heap s.heap [] := va_S.rf
  have wd6 : (Cond.initialized RX5).before [.ref (a 0), .int x1, .int x2].toArray s = true := hts _ (List.mem_of_getElem? (i := 6) rfl)
  have wd5 : (Cond.static yX5_isIn).before [.ref (a 0), .int x1, .int x2].toArray s = true := hts _ (List.mem_of_getElem? (i := 5) rfl)
  have wd1 : (Cond.fieldLink RX4 59 "PickSlots$Warehouse" "goods" "I").before [.ref (a 0), .int x1, .int x2].toArray s = true := hts _ (List.mem_of_getElem? (i := 1) rfl)
  have wd2 : (Cond.fieldLink RX4 9 "PickSlots$Warehouse" "weights" "[I").before [.ref (a 0), .int x1, .int x2].toArray s = true := hts _ (List.mem_of_getElem? (i := 2) rfl)
  have wd3 : (Cond.fieldLink RX4 15 "PickSlots$Warehouse" "capacities" "[I").before [.ref (a 0), .int x1, .int x2].toArray s = true := hts _ (List.mem_of_getElem? (i := 3) rfl)
  have wd4 : (Cond.fieldLink RX4 21 "PickSlots$Warehouse" "slotOfGood" "[I").before [.ref (a 0), .int x1, .int x2].toArray s = true := hts _ (List.mem_of_getElem? (i := 4) rfl)
  have hi4 : ∀ w ∈ wsX40, w ∈ wsX4_addGood := fun w h => List.mem_cons_of_mem _ (List.mem_append_right _ (h))
  have CF : CallFix p m c cX4_addGood 3 s [.ref (a 0), .int x1, .int x2].toArray wsX4_addGood RX4 := ⟨hx, hb, hml, hown, hts⟩
  have hl := lv_entry ([.ref (a 0), .int x1, .int x2]) (n := 3) (Nat.le_of_ble_eq_true rfl)
  rw [lg_entry_eq]
  generalize (lg_sl ([.ref (a 0), .int x1, .int x2]) ++ List.replicate (3 - (lg_sl ([.ref (a 0), .int x1, .int x2])).length) Slot.unset).toArray = ls at hl ⊢
  have hl : lv_has ls 3 [(0, .ref (a 0)), (1, .int x1), (2, .int x2)] := hl
  refine lv_iload_n hx hb dX4_addGood_0 rfl (lv_at hl 1 rfl) ?_
  refine lv_iconst (v := 1) hx hb dX4_addGood_1 (by decide) ?_
  refine lv_bipush (v := 40) hx hb dX4_addGood_2 (by decide) ?_
  refine roSN CF (c_X5_isIn l D cI cC cW t _ _ _ ) (va_cnB 3 hts gX4_addGood_X5_isIn_n86 rfl rfl rfl (hX.1.2 ("PickSlots$Warehouse", 86, yX5_isIn) (List.mem_of_getElem? (i := 3) rfl)) wd6 (by decide +kernel) ⟨Nat.le_of_ble_eq_true rfl, Nat.le_of_ble_eq_true rfl⟩) wd5 vP_nil hK hX hS rfl hl.1 rfl (Nat.le_of_ble_eq_true rfl) dX4_addGood_4 ⟨Nat.zero_le _, Nat.zero_le _⟩ ?_
  refine lv_if_eq (tgt := 21) hx hb dX4_addGood_7 (by decide) (fun c7 => ?_) (fun c7 => ?_)
  · refine lv_iconst (v := -1) hx hb dX4_addGood_21 (by decide) ?_
    exact rw_ret (_, _) hx hb hr hP hD hS (Eq.trans (if_pos c7) (rfl)) dX4_addGood_22 hlocks
  · refine lv_iload_n hx hb dX4_addGood_10 rfl (lv_at hl 2 rfl) ?_
    refine lv_iconst (v := 1) hx hb dX4_addGood_11 (by decide) ?_
    refine lv_sipush (v := 200) hx hb dX4_addGood_12 (by decide) ?_
    refine roSN CF (c_X5_isIn l D cI cC cW t _ _ _ ) (va_cnB 3 hts gX4_addGood_X5_isIn_n86 rfl rfl rfl (hX.1.2 ("PickSlots$Warehouse", 86, yX5_isIn) (List.mem_of_getElem? (i := 3) rfl)) wd6 (by decide +kernel) ⟨Nat.le_of_ble_eq_true rfl, Nat.le_of_ble_eq_true rfl⟩) wd5 vP_nil hK hX hS rfl hl.1 rfl (Nat.le_of_ble_eq_true rfl) dX4_addGood_15 ⟨Nat.zero_le _, Nat.zero_le _⟩ ?_
    refine lv_if_ne (tgt := 23) hx hb dX4_addGood_18 (by decide) (fun c18 => ?_) (fun c18 => ?_)
    · refine lv_aload_n hx hb dX4_addGood_23 rfl (lv_at hl 0 rfl) ?_
      refine va_get (D := D) (ci := 3) (C := RX4) (T := TX4) (N := 13) hx hb hts hi4 hown hK hP 0 wg_0 rfl 11 (by decide) wd1 (fun _ h9 => h9) rfl dX4_addGood_24 ?_
      refine lv_bipush (v := 20) hx hb dX4_addGood_27 (by decide) ?_
      refine lv_icmp_lt (tgt := 35) hx hb dX4_addGood_29 (by decide) (fun c29 => ?_) (fun c29 => ?_)
      · have hg : vp_in (N 0) 20 := gd20 hsf c29
        refine lv_aload_n hx hb dX4_addGood_35 rfl (lv_at hl 0 rfl) ?_
        refine va_get (D := D) (ci := 3) (C := RX4) (T := TX4) (N := 13) hx hb hts hi4 hown hK hP 0 wg_0 rfl 0 (by decide) wd2 (fun _ h9 => h9) rfl dX4_addGood_36 ?_
        refine lv_aload_n hx hb dX4_addGood_39 rfl (lv_at hl 0 rfl) ?_
        refine va_get (D := D) (ci := 3) (C := RX4) (T := TX4) (N := 13) hx hb hts hi4 hown hK hP 0 wg_0 rfl 11 (by decide) wd1 (fun _ h9 => h9) rfl dX4_addGood_40 ?_
        refine lv_iload_n hx hb dX4_addGood_43 rfl (lv_at hl 1 rfl) ?_
        refine my_iast hx hb hK hP hD hS 1 0 wg_1 rfl (wg_s1 _ _) (by first | (with_reducible first | assumption | exact g20 (by assumption) (by assumption) | exact sl60 (by assumption) | exact pl60 (by assumption) | exact cg60 (by assumption) | exact sea4 (by assumption) | exact in3 (by assumption) | exact dm80 (by assumption) (by assumption) | exact s4 (by assumption)) | (with_reducible (repeat (refine sf_u (by omega) ?_)); assumption) | (simp (disch := omega) only [pk_un]; (with_reducible first | assumption | exact g20 (by assumption) (by assumption) | exact sl60 (by assumption) | exact pl60 (by assumption) | exact cg60 (by assumption) | exact sea4 (by assumption) | exact in3 (by assumption) | exact dm80 (by assumption) (by assumption) | exact s4 (by assumption))) | (unfold vp_in; decide)) dX4_addGood_44 (fun H locs hP hD hS => ?_)
        refine lv_aload_n hx hb dX4_addGood_45 rfl (lv_at hl 0 rfl) ?_
        refine va_get (D := D) (ci := 3) (C := RX4) (T := TX4) (N := 13) hx hb hts hi4 hown hK hP 0 wg_0 rfl 1 (by decide) wd3 (fun _ h9 => h9) rfl dX4_addGood_46 ?_
        refine lv_aload_n hx hb dX4_addGood_49 rfl (lv_at hl 0 rfl) ?_
        refine va_get (D := D) (ci := 3) (C := RX4) (T := TX4) (N := 13) hx hb hts hi4 hown hK hP 0 wg_0 rfl 11 (by decide) wd1 (fun _ h9 => h9) rfl dX4_addGood_50 ?_
        refine lv_iload_n hx hb dX4_addGood_53 rfl (lv_at hl 2 rfl) ?_
        refine my_iast hx hb hK hP hD hS 2 0 wg_2 rfl (wg_s2 _ _) (by first | (with_reducible first | assumption | exact g20 (by assumption) (by assumption) | exact sl60 (by assumption) | exact pl60 (by assumption) | exact cg60 (by assumption) | exact sea4 (by assumption) | exact in3 (by assumption) | exact dm80 (by assumption) (by assumption) | exact s4 (by assumption)) | (with_reducible (repeat (refine sf_u (by omega) ?_)); assumption) | (simp (disch := omega) only [pk_un]; (with_reducible first | assumption | exact g20 (by assumption) (by assumption) | exact sl60 (by assumption) | exact pl60 (by assumption) | exact cg60 (by assumption) | exact sea4 (by assumption) | exact in3 (by assumption) | exact dm80 (by assumption) (by assumption) | exact s4 (by assumption))) | (unfold vp_in; decide)) dX4_addGood_54 (fun H locs hP hD hS => ?_)
        refine lv_aload_n hx hb dX4_addGood_55 rfl (lv_at hl 0 rfl) ?_
        refine va_get (D := D) (ci := 3) (C := RX4) (T := TX4) (N := 13) hx hb hts hi4 hown hK hP 0 wg_0 rfl 3 (by decide) wd4 (fun _ h9 => h9) rfl dX4_addGood_56 ?_
        refine lv_aload_n hx hb dX4_addGood_59 rfl (lv_at hl 0 rfl) ?_
        refine va_get (D := D) (ci := 3) (C := RX4) (T := TX4) (N := 13) hx hb hts hi4 hown hK hP 0 wg_0 rfl 11 (by decide) wd1 (fun _ h9 => h9) rfl dX4_addGood_60 ?_
        refine lv_iconst (v := -1) hx hb dX4_addGood_63 (by decide) ?_
        refine my_iast hx hb hK hP hD hS 4 0 wg_4 rfl (wg_s4 _ _) (by first | (with_reducible first | assumption | exact g20 (by assumption) (by assumption) | exact sl60 (by assumption) | exact pl60 (by assumption) | exact cg60 (by assumption) | exact sea4 (by assumption) | exact in3 (by assumption) | exact dm80 (by assumption) (by assumption) | exact s4 (by assumption)) | (with_reducible (repeat (refine sf_u (by omega) ?_)); assumption) | (simp (disch := omega) only [pk_un]; (with_reducible first | assumption | exact g20 (by assumption) (by assumption) | exact sl60 (by assumption) | exact pl60 (by assumption) | exact cg60 (by assumption) | exact sea4 (by assumption) | exact in3 (by assumption) | exact dm80 (by assumption) (by assumption) | exact s4 (by assumption))) | (unfold vp_in; decide)) dX4_addGood_64 (fun H locs hP hD hS => ?_)
        refine lv_aload_n hx hb dX4_addGood_65 rfl (lv_at hl 0 rfl) ?_
        refine lv_dup hx hb dX4_addGood_66 rfl ?_
        refine va_get (D := D) (ci := 3) (C := RX4) (T := TX4) (N := 13) hx hb hts hi4 hown hK hP 0 wg_0 rfl 11 (by decide) wd1 (fun _ h9 => h9) rfl dX4_addGood_67 ?_
        refine lv_iconst (v := 1) hx hb dX4_addGood_70 (by decide) ?_
        refine lv_iadd hx hb dX4_addGood_71 ?_
        refine my_put (D := D) (ci := 3) (C := RX4) (T := TX4) (N := 13) (ty := .int) hx hb hts hi4 tyX4 tyX4_ok nmX4 hown hK hP hD hS 0 wg_0 rfl 11 (by decide) wd1 (fun _ h9 => h9) rfl (by decide +kernel) rfl rfl (Nat.le_of_ble_eq_true rfl) (wg_f11 _) dX4_addGood_72 (fun H locs hP hD hS => ?_)
        refine lv_aload_n hx hb dX4_addGood_75 rfl (lv_at hl 0 rfl) ?_
        refine va_get (D := D) (ci := 3) (C := RX4) (T := TX4) (N := 13) hx hb hts hi4 hown hK hP 0 wg_0 rfl 11 (by decide) wd1 (fun _ h9 => h9) rfl dX4_addGood_76 ?_
        refine lv_iconst (v := 1) hx hb dX4_addGood_79 (by decide) ?_
        refine lv_isub hx hb dX4_addGood_80 ?_
        exact rw_ret (_, _) hx hb hr hP hD hS (Eq.trans (if_neg c7) (Eq.trans (if_neg c18) (Eq.trans (if_pos c29) (rfl)))) dX4_addGood_81 hlocks
      · refine lv_bipush (v := -3) hx hb dX4_addGood_32 (by decide) ?_
        exact rw_ret (_, _) hx hb hr hP hD hS (Eq.trans (if_neg c7) (Eq.trans (if_neg c18) (Eq.trans (if_neg c29) (rfl)))) dX4_addGood_34 hlocks
    · refine lv_iconst (v := -1) hx hb dX4_addGood_21 (by decide) ?_
      exact rw_ret (_, _) hx hb hr hP hD hS (Eq.trans (if_neg c7) (Eq.trans (if_pos c18) (rfl))) dX4_addGood_22 hlocks

def sp_X4_changeDemand (N : Nat → Int32) (G : Nat → Int32) (x1 x2 x3 : Int32) : Int32 × ((Nat → Int32) × (Nat → Int32)) :=
  if (sp_X4_isGood N G x1) = 0 then (((-1 : Int32), (N, G))) else (if (sp_X5_isSeason x2) = 0 then (((-1 : Int32), (N, G))) else (if (sp_X5_isIn x3 (0 : Int32) (999 : Int32)) = 0 then (((-1 : Int32), (N, G))) else (let N1 : Nat → Int32 := upd N (18 + 11 * ((ix ((x1 * (4 : Int32)) + x2)) / 4) + (ix ((x1 * (4 : Int32)) + x2)) % 4) x3; ((sp_X4_demandOf N G x1 x2), (N1, G)))))
set_option maxHeartbeats 4000000 in
set_option maxRecDepth 100000 in
theorem c_X4_changeDemand (l : Launch) (D : va_G) (cI cC cW : ClassId) (t : Nat → Nat) (a : Nat → Nat) (sz : Nat) (N : Nat → Int32) (G : Nat → Int32) (x1 x2 x3 : Int32) (hsf : sfN N) : Met l yX4_changeDemand wsX4_changeDemand ({ frames := 1, cells := 0, slots := 0, locals := 22 }) (va_Pc [.ref (a 0), .int x1, .int x2, .int x3] (rwP D (tyL cI cC cW) (wg cI a N G) t sz)) (va_Qi (fun (r : Int32) (u : ((Nat → Int32) × (Nat → Int32))) => (r, u) = sp_X4_changeDemand N G x1 x2 x3) (fun u => rwB D (va_A (wg cI a N G) sz) (wg cI a u.1 u.2)) (va_A (wg cI a N G) sz)) 0 0 (va_A (wg cI a N G) sz) := by
  refine Met.ofW (cc := cX4_changeDemand) (maxL := 5) (ret := (some .int)) (by decide) rfl ?_
  intro p e s m args below meth c s₁ B hml hv
  obtain ⟨rfl, hsz, hP, hK, hD0, hX⟩ := hv
  have hx := B.exec
  have hb := B.bytes
  have hr := B.returns
  have hts := atoms_spec (ws := wsX4_changeDemand) B.pre
  have hown : s.vm.findClass RX4 = some m.cls := findClass_of_methodNamed B.named
  have hlocks := B.notSynchronized
  subst hsz
  have hD := hD0.self (sz := s.heap.size)
  generalize hAe : va_A (wg cI a N G) s.heap.size = A at hD hX ⊢
  have hA : ∀ q : Nat, s.heap.size ≤ q → A q := fun q h => by rw [← hAe]; exact Or.inr h
  have hS : va_S A s.heap s.heap [] := va_S.rf
  have wd9 : (Cond.initialized RX5).before [.ref (a 0), .int x1, .int x2, .int x3].toArray s = true := hts _ (List.mem_of_getElem? (i := 9) rfl)
  have wd8 : (Cond.static yX5_isSeason).before [.ref (a 0), .int x1, .int x2, .int x3].toArray s = true := hts _ (List.mem_of_getElem? (i := 8) rfl)
  have wd11 : (Cond.static yX5_isIn).before [.ref (a 0), .int x1, .int x2, .int x3].toArray s = true := hts _ (List.mem_of_getElem? (i := 11) rfl)
  have wd1 : (Cond.fieldLink RX4 18 "PickSlots$Warehouse" "seasonDemands" "[I").before [.ref (a 0), .int x1, .int x2, .int x3].toArray s = true := hts _ (List.mem_of_getElem? (i := 1) rfl)
  have hi4 : ∀ w ∈ wsX40, w ∈ wsX4_changeDemand := fun w h => List.mem_cons_of_mem _ (List.mem_append_right _ (h))
  have CF : CallFix p m c cX4_changeDemand 5 s [.ref (a 0), .int x1, .int x2, .int x3].toArray wsX4_changeDemand RX4 := ⟨hx, hb, hml, hown, hts⟩
  have hl := lv_entry ([.ref (a 0), .int x1, .int x2, .int x3]) (n := 5) (Nat.le_of_ble_eq_true rfl)
  rw [lg_entry_eq]
  generalize (lg_sl ([.ref (a 0), .int x1, .int x2, .int x3]) ++ List.replicate (5 - (lg_sl ([.ref (a 0), .int x1, .int x2, .int x3])).length) Slot.unset).toArray = ls at hl ⊢
  have hl : lv_has ls 5 [(0, .ref (a 0)), (1, .int x1), (2, .int x2), (3, .int x3)] := hl
  refine lv_aload_n hx hb dX4_changeDemand_0 rfl (lv_at hl 0 rfl) ?_
  refine lv_iload_n hx hb dX4_changeDemand_1 rfl (lv_at hl 1 rfl) ?_
  refine roV CF (c_X4_isGood l D cI cC cW t _ _ _ _ ) (cwV 1 hts gX4_changeDemand_X4_isGood rfl rfl rfl (by decide +kernel) ⟨Nat.le_of_ble_eq_true rfl, Nat.le_of_ble_eq_true rfl⟩) hP hK hX hS 0 3 wg_0 rfl rfl hl.1 rfl (Nat.le_of_ble_eq_true rfl) dX4_changeDemand_2 ⟨Nat.zero_le _, Nat.zero_le _⟩ ?_
  refine lv_if_eq (tgt := 26) hx hb dX4_changeDemand_5 (by decide) (fun c5 => ?_) (fun c5 => ?_)
  · refine lv_iconst (v := -1) hx hb dX4_changeDemand_26 (by decide) ?_
    exact rw_ret (_, _) hx hb hr hP hD hS (Eq.trans (if_pos c5) (rfl)) dX4_changeDemand_27 hlocks
  · have hg : vp_in x1 20 := g20 hsf c5
    refine lv_iload_n hx hb dX4_changeDemand_8 rfl (lv_at hl 2 rfl) ?_
    refine roSN CF (c_X5_isSeason l D cI cC cW t _ ) (va_cnB 1 hts gX4_changeDemand_X5_isSeason_n93 rfl rfl rfl (hX.1.2 ("PickSlots$Warehouse", 93, yX5_isSeason) (List.mem_of_getElem? (i := 4) rfl)) wd9 (by decide +kernel) ⟨Nat.le_of_ble_eq_true rfl, Nat.le_of_ble_eq_true rfl⟩) wd8 vP_nil hK hX hS rfl hl.1 rfl (Nat.le_of_ble_eq_true rfl) dX4_changeDemand_9 ⟨Nat.zero_le _, Nat.zero_le _⟩ ?_
    refine lv_if_eq (tgt := 26) hx hb dX4_changeDemand_12 (by decide) (fun c12 => ?_) (fun c12 => ?_)
    · refine lv_iconst (v := -1) hx hb dX4_changeDemand_26 (by decide) ?_
      exact rw_ret (_, _) hx hb hr hP hD hS (Eq.trans (if_neg c5) (Eq.trans (if_pos c12) (rfl))) dX4_changeDemand_27 hlocks
    · have hs : vp_in x2 4 := sea4 c12
      refine lv_iload_n hx hb dX4_changeDemand_15 rfl (lv_at hl 3 rfl) ?_
      refine lv_iconst (v := 0) hx hb dX4_changeDemand_16 (by decide) ?_
      refine lv_sipush (v := 999) hx hb dX4_changeDemand_17 (by decide) ?_
      refine roSN CF (c_X5_isIn l D cI cC cW t _ _ _ ) (va_cnB 3 hts gX4_changeDemand_X5_isIn_n86 rfl rfl rfl (hX.1.2 ("PickSlots$Warehouse", 86, yX5_isIn) (List.mem_of_getElem? (i := 3) rfl)) wd9 (by decide +kernel) ⟨Nat.le_of_ble_eq_true rfl, Nat.le_of_ble_eq_true rfl⟩) wd11 vP_nil hK hX hS rfl hl.1 rfl (Nat.le_of_ble_eq_true rfl) dX4_changeDemand_20 ⟨Nat.zero_le _, Nat.zero_le _⟩ ?_
      refine lv_if_ne (tgt := 28) hx hb dX4_changeDemand_23 (by decide) (fun c23 => ?_) (fun c23 => ?_)
      · refine lv_aload_n hx hb dX4_changeDemand_28 rfl (lv_at hl 0 rfl) ?_
        refine lv_iload_n hx hb dX4_changeDemand_29 rfl (lv_at hl 1 rfl) ?_
        refine lv_iload_n hx hb dX4_changeDemand_30 rfl (lv_at hl 2 rfl) ?_
        refine roV CF (c_X4_demandOf l D cI cC cW t _ _ _ _ _ (by first | (with_reducible first | assumption | exact g20 (by assumption) (by assumption) | exact sl60 (by assumption) | exact pl60 (by assumption) | exact cg60 (by assumption) | exact sea4 (by assumption) | exact in3 (by assumption) | exact dm80 (by assumption) (by assumption) | exact s4 (by assumption)) | (with_reducible (repeat (refine sf_u (by omega) ?_)); assumption) | (simp (disch := omega) only [pk_un]; (with_reducible first | assumption | exact g20 (by assumption) (by assumption) | exact sl60 (by assumption) | exact pl60 (by assumption) | exact cg60 (by assumption) | exact sea4 (by assumption) | exact in3 (by assumption) | exact dm80 (by assumption) (by assumption) | exact s4 (by assumption))) | (unfold vp_in; decide)) (by first | (with_reducible first | assumption | exact g20 (by assumption) (by assumption) | exact sl60 (by assumption) | exact pl60 (by assumption) | exact cg60 (by assumption) | exact sea4 (by assumption) | exact in3 (by assumption) | exact dm80 (by assumption) (by assumption) | exact s4 (by assumption)) | (with_reducible (repeat (refine sf_u (by omega) ?_)); assumption) | (simp (disch := omega) only [pk_un]; (with_reducible first | assumption | exact g20 (by assumption) (by assumption) | exact sl60 (by assumption) | exact pl60 (by assumption) | exact cg60 (by assumption) | exact sea4 (by assumption) | exact in3 (by assumption) | exact dm80 (by assumption) (by assumption) | exact s4 (by assumption))) | (unfold vp_in; decide))) (cwV 2 hts gX4_changeDemand_X4_demandOf rfl rfl rfl (by decide +kernel) ⟨Nat.le_of_ble_eq_true rfl, Nat.le_of_ble_eq_true rfl⟩) hP hK hX hS 0 3 wg_0 rfl rfl hl.1 rfl (Nat.le_of_ble_eq_true rfl) dX4_changeDemand_31 ⟨Nat.zero_le _, Nat.zero_le _⟩ ?_
        refine lv_istore (lv' := [(4, .int _), (0, .ref _), (1, .int _), (2, .int _), (3, .int _)]) hx hb dX4_changeDemand_34 hl (by decide) rfl (fun ls hl => ?_)
        refine lv_aload_n hx hb dX4_changeDemand_36 rfl (lv_at hl 1 rfl) ?_
        refine va_get (D := D) (ci := 3) (C := RX4) (T := TX4) (N := 13) hx hb hts hi4 hown hK hP 0 wg_0 rfl 2 (by decide) wd1 (fun _ h9 => h9) rfl dX4_changeDemand_37 ?_
        refine lv_iload_n hx hb dX4_changeDemand_40 rfl (lv_at hl 2 rfl) ?_
        refine lv_iconst (v := 4) hx hb dX4_changeDemand_41 (by decide) ?_
        refine lv_imul hx hb dX4_changeDemand_42 ?_
        refine lv_iload_n hx hb dX4_changeDemand_43 rfl (lv_at hl 3 rfl) ?_
        refine lv_iadd hx hb dX4_changeDemand_44 ?_
        refine lv_iload_n hx hb dX4_changeDemand_45 rfl (lv_at hl 4 rfl) ?_
        refine my_iast hx hb hK hP hD hS 3 0 wg_3 rfl (wg_s3 _ _) (by first | (with_reducible first | assumption | exact g20 (by assumption) (by assumption) | exact sl60 (by assumption) | exact pl60 (by assumption) | exact cg60 (by assumption) | exact sea4 (by assumption) | exact in3 (by assumption) | exact dm80 (by assumption) (by assumption) | exact s4 (by assumption)) | (with_reducible (repeat (refine sf_u (by omega) ?_)); assumption) | (simp (disch := omega) only [pk_un]; (with_reducible first | assumption | exact g20 (by assumption) (by assumption) | exact sl60 (by assumption) | exact pl60 (by assumption) | exact cg60 (by assumption) | exact sea4 (by assumption) | exact in3 (by assumption) | exact dm80 (by assumption) (by assumption) | exact s4 (by assumption))) | (unfold vp_in; decide)) dX4_changeDemand_46 (fun H locs hP hD hS => ?_)
        refine lv_iload hx hb dX4_changeDemand_47 (lv_at hl 0 rfl) ?_
        exact rw_ret (_, _) hx hb hr hP hD hS (Eq.trans (if_neg c5) (Eq.trans (if_neg c12) (Eq.trans (if_neg c23) (rfl)))) dX4_changeDemand_49 hlocks
      · refine lv_iconst (v := -1) hx hb dX4_changeDemand_26 (by decide) ?_
        exact rw_ret (_, _) hx hb hr hP hD hS (Eq.trans (if_neg c5) (Eq.trans (if_neg c12) (Eq.trans (if_pos c23) (rfl)))) dX4_changeDemand_27 hlocks

def sp_X4_addToStore (N : Nat → Int32) (G : Nat → Int32) (x1 x2 : Int32) : Int32 × ((Nat → Int32) × (Nat → Int32)) :=
  if (sp_X4_isGood N G x1) = 0 then (((-1 : Int32), (N, G))) else (if (sp_X5_isIn x2 (1 : Int32) (5000 : Int32)) = 0 then (((-1 : Int32), (N, G))) else (if ((N (24 + 11 * (ix x1))) + x2) ≤ (100000 : Int32) then (let N1 : Nat → Int32 := upd N (24 + 11 * (ix x1)) ((N (24 + 11 * (ix x1))) + x2); ((N1 (24 + 11 * (ix x1))), (N1, G))) else (((-3 : Int32), (N, G)))))
set_option maxHeartbeats 4000000 in
set_option maxRecDepth 100000 in
theorem c_X4_addToStore (l : Launch) (D : va_G) (cI cC cW : ClassId) (t : Nat → Nat) (a : Nat → Nat) (sz : Nat) (N : Nat → Int32) (G : Nat → Int32) (x1 x2 : Int32) (hsf : sfN N) : Met l yX4_addToStore wsX4_addToStore ({ frames := 1, cells := 0, slots := 0, locals := 22 }) (va_Pc [.ref (a 0), .int x1, .int x2] (rwP D (tyL cI cC cW) (wg cI a N G) t sz)) (va_Qi (fun (r : Int32) (u : ((Nat → Int32) × (Nat → Int32))) => (r, u) = sp_X4_addToStore N G x1 x2) (fun u => rwB D (va_A (wg cI a N G) sz) (wg cI a u.1 u.2)) (va_A (wg cI a N G) sz)) 0 0 (va_A (wg cI a N G) sz) := by
  refine Met.ofW (cc := cX4_addToStore) (maxL := 3) (ret := (some .int)) (by decide) rfl ?_
  intro p e s m args below meth c s₁ B hml hv
  obtain ⟨rfl, hsz, hP, hK, hD0, hX⟩ := hv
  have hx := B.exec
  have hb := B.bytes
  have hr := B.returns
  have hts := atoms_spec (ws := wsX4_addToStore) B.pre
  have hown : s.vm.findClass RX4 = some m.cls := findClass_of_methodNamed B.named
  have hlocks := B.notSynchronized
  subst hsz
  have hD := hD0.self (sz := s.heap.size)
  generalize hAe : va_A (wg cI a N G) s.heap.size = A at hD hX ⊢
  have hA : ∀ q : Nat, s.heap.size ≤ q → A q := fun q h => by rw [← hAe]; exact Or.inr h
  have hS : va_S A s.heap s.heap [] := va_S.rf
  have wd10 : (Cond.initialized RX5).before [.ref (a 0), .int x1, .int x2].toArray s = true := hts _ (List.mem_of_getElem? (i := 10) rfl)
  have wd9 : (Cond.static yX5_isIn).before [.ref (a 0), .int x1, .int x2].toArray s = true := hts _ (List.mem_of_getElem? (i := 9) rfl)
  have wd1 : (Cond.fieldLink RX4 27 "PickSlots$Warehouse" "unitsInStore" "[I").before [.ref (a 0), .int x1, .int x2].toArray s = true := hts _ (List.mem_of_getElem? (i := 1) rfl)
  have wd2 : (Cond.constant RX4 99 (100000)).before [.ref (a 0), .int x1, .int x2].toArray s = true := hts _ (List.mem_of_getElem? (i := 2) rfl)
  have hi4 : ∀ w ∈ wsX40, w ∈ wsX4_addToStore := fun w h => List.mem_cons_of_mem _ (List.mem_append_right _ (h))
  have CF : CallFix p m c cX4_addToStore 3 s [.ref (a 0), .int x1, .int x2].toArray wsX4_addToStore RX4 := ⟨hx, hb, hml, hown, hts⟩
  have hl := lv_entry ([.ref (a 0), .int x1, .int x2]) (n := 3) (Nat.le_of_ble_eq_true rfl)
  rw [lg_entry_eq]
  generalize (lg_sl ([.ref (a 0), .int x1, .int x2]) ++ List.replicate (3 - (lg_sl ([.ref (a 0), .int x1, .int x2])).length) Slot.unset).toArray = ls at hl ⊢
  have hl : lv_has ls 3 [(0, .ref (a 0)), (1, .int x1), (2, .int x2)] := hl
  refine lv_aload_n hx hb dX4_addToStore_0 rfl (lv_at hl 0 rfl) ?_
  refine lv_iload_n hx hb dX4_addToStore_1 rfl (lv_at hl 1 rfl) ?_
  refine roV CF (c_X4_isGood l D cI cC cW t _ _ _ _ ) (cwV 1 hts gX4_addToStore_X4_isGood rfl rfl rfl (by decide +kernel) ⟨Nat.le_of_ble_eq_true rfl, Nat.le_of_ble_eq_true rfl⟩) hP hK hX hS 0 3 wg_0 rfl rfl hl.1 rfl (Nat.le_of_ble_eq_true rfl) dX4_addToStore_2 ⟨Nat.zero_le _, Nat.zero_le _⟩ ?_
  refine lv_if_eq (tgt := 19) hx hb dX4_addToStore_5 (by decide) (fun c5 => ?_) (fun c5 => ?_)
  · refine lv_iconst (v := -1) hx hb dX4_addToStore_19 (by decide) ?_
    exact rw_ret (_, _) hx hb hr hP hD hS (Eq.trans (if_pos c5) (rfl)) dX4_addToStore_20 hlocks
  · refine lv_iload_n hx hb dX4_addToStore_8 rfl (lv_at hl 2 rfl) ?_
    refine lv_iconst (v := 1) hx hb dX4_addToStore_9 (by decide) ?_
    refine lv_sipush (v := 5000) hx hb dX4_addToStore_10 (by decide) ?_
    refine roSN CF (c_X5_isIn l D cI cC cW t _ _ _ ) (va_cnB 3 hts gX4_addToStore_X5_isIn_n86 rfl rfl rfl (hX.1.2 ("PickSlots$Warehouse", 86, yX5_isIn) (List.mem_of_getElem? (i := 3) rfl)) wd10 (by decide +kernel) ⟨Nat.le_of_ble_eq_true rfl, Nat.le_of_ble_eq_true rfl⟩) wd9 vP_nil hK hX hS rfl hl.1 rfl (Nat.le_of_ble_eq_true rfl) dX4_addToStore_13 ⟨Nat.zero_le _, Nat.zero_le _⟩ ?_
    refine lv_if_ne (tgt := 21) hx hb dX4_addToStore_16 (by decide) (fun c16 => ?_) (fun c16 => ?_)
    · refine lv_aload_n hx hb dX4_addToStore_21 rfl (lv_at hl 0 rfl) ?_
      refine va_get (D := D) (ci := 3) (C := RX4) (T := TX4) (N := 13) hx hb hts hi4 hown hK hP 0 wg_0 rfl 5 (by decide) wd1 (fun _ h9 => h9) rfl dX4_addToStore_22 ?_
      refine lv_iload_n hx hb dX4_addToStore_25 rfl (lv_at hl 1 rfl) ?_
      refine va_iald hx hb hK hP 6 0 wg_6 rfl (by first | (with_reducible first | assumption | exact g20 (by assumption) (by assumption) | exact sl60 (by assumption) | exact pl60 (by assumption) | exact cg60 (by assumption) | exact sea4 (by assumption) | exact in3 (by assumption) | exact dm80 (by assumption) (by assumption) | exact s4 (by assumption)) | (with_reducible (repeat (refine sf_u (by omega) ?_)); assumption) | (simp (disch := omega) only [pk_un]; (with_reducible first | assumption | exact g20 (by assumption) (by assumption) | exact sl60 (by assumption) | exact pl60 (by assumption) | exact cg60 (by assumption) | exact sea4 (by assumption) | exact in3 (by assumption) | exact dm80 (by assumption) (by assumption) | exact s4 (by assumption))) | (unfold vp_in; decide)) dX4_addToStore_26 ?_
      refine lv_iload_n hx hb dX4_addToStore_27 rfl (lv_at hl 2 rfl) ?_
      refine lv_iadd hx hb dX4_addToStore_28 ?_
      refine lv_ldc hx hb hown wd2 dX4_addToStore_29 ?_
      refine lv_icmp_le (tgt := 37) hx hb dX4_addToStore_31 (by decide) (fun c31 => ?_) (fun c31 => ?_)
      · refine lv_aload_n hx hb dX4_addToStore_37 rfl (lv_at hl 0 rfl) ?_
        refine va_get (D := D) (ci := 3) (C := RX4) (T := TX4) (N := 13) hx hb hts hi4 hown hK hP 0 wg_0 rfl 5 (by decide) wd1 (fun _ h9 => h9) rfl dX4_addToStore_38 ?_
        refine lv_iload_n hx hb dX4_addToStore_41 rfl (lv_at hl 1 rfl) ?_
        refine lv_dup2_11 hx hb dX4_addToStore_42 rfl rfl ?_
        refine va_iald hx hb hK hP 6 0 wg_6 rfl (by first | (with_reducible first | assumption | exact g20 (by assumption) (by assumption) | exact sl60 (by assumption) | exact pl60 (by assumption) | exact cg60 (by assumption) | exact sea4 (by assumption) | exact in3 (by assumption) | exact dm80 (by assumption) (by assumption) | exact s4 (by assumption)) | (with_reducible (repeat (refine sf_u (by omega) ?_)); assumption) | (simp (disch := omega) only [pk_un]; (with_reducible first | assumption | exact g20 (by assumption) (by assumption) | exact sl60 (by assumption) | exact pl60 (by assumption) | exact cg60 (by assumption) | exact sea4 (by assumption) | exact in3 (by assumption) | exact dm80 (by assumption) (by assumption) | exact s4 (by assumption))) | (unfold vp_in; decide)) dX4_addToStore_43 ?_
        refine lv_iload_n hx hb dX4_addToStore_44 rfl (lv_at hl 2 rfl) ?_
        refine lv_iadd hx hb dX4_addToStore_45 ?_
        refine my_iast hx hb hK hP hD hS 6 0 wg_6 rfl (wg_s6 _ _) (by first | (with_reducible first | assumption | exact g20 (by assumption) (by assumption) | exact sl60 (by assumption) | exact pl60 (by assumption) | exact cg60 (by assumption) | exact sea4 (by assumption) | exact in3 (by assumption) | exact dm80 (by assumption) (by assumption) | exact s4 (by assumption)) | (with_reducible (repeat (refine sf_u (by omega) ?_)); assumption) | (simp (disch := omega) only [pk_un]; (with_reducible first | assumption | exact g20 (by assumption) (by assumption) | exact sl60 (by assumption) | exact pl60 (by assumption) | exact cg60 (by assumption) | exact sea4 (by assumption) | exact in3 (by assumption) | exact dm80 (by assumption) (by assumption) | exact s4 (by assumption))) | (unfold vp_in; decide)) dX4_addToStore_46 (fun H locs hP hD hS => ?_)
        refine lv_aload_n hx hb dX4_addToStore_47 rfl (lv_at hl 0 rfl) ?_
        refine va_get (D := D) (ci := 3) (C := RX4) (T := TX4) (N := 13) hx hb hts hi4 hown hK hP 0 wg_0 rfl 5 (by decide) wd1 (fun _ h9 => h9) rfl dX4_addToStore_48 ?_
        refine lv_iload_n hx hb dX4_addToStore_51 rfl (lv_at hl 1 rfl) ?_
        refine va_iald hx hb hK hP 6 0 wg_6 rfl (by first | (with_reducible first | assumption | exact g20 (by assumption) (by assumption) | exact sl60 (by assumption) | exact pl60 (by assumption) | exact cg60 (by assumption) | exact sea4 (by assumption) | exact in3 (by assumption) | exact dm80 (by assumption) (by assumption) | exact s4 (by assumption)) | (with_reducible (repeat (refine sf_u (by omega) ?_)); assumption) | (simp (disch := omega) only [pk_un]; (with_reducible first | assumption | exact g20 (by assumption) (by assumption) | exact sl60 (by assumption) | exact pl60 (by assumption) | exact cg60 (by assumption) | exact sea4 (by assumption) | exact in3 (by assumption) | exact dm80 (by assumption) (by assumption) | exact s4 (by assumption))) | (unfold vp_in; decide)) dX4_addToStore_52 ?_
        exact rw_ret (_, _) hx hb hr hP hD hS (Eq.trans (if_neg c5) (Eq.trans (if_neg c16) (Eq.trans (if_pos c31) (rfl)))) dX4_addToStore_53 hlocks
      · refine lv_bipush (v := -3) hx hb dX4_addToStore_34 (by decide) ?_
        exact rw_ret (_, _) hx hb hr hP hD hS (Eq.trans (if_neg c5) (Eq.trans (if_neg c16) (Eq.trans (if_neg c31) (rfl)))) dX4_addToStore_36 hlocks
    · refine lv_iconst (v := -1) hx hb dX4_addToStore_19 (by decide) ?_
      exact rw_ret (_, _) hx hb hr hP hD hS (Eq.trans (if_neg c5) (Eq.trans (if_pos c16) (rfl))) dX4_addToStore_20 hlocks

def sp_X4_putIntoSlot (N : Nat → Int32) (G : Nat → Int32) (x1 x2 : Int32) : Int32 × ((Nat → Int32) × (Nat → Int32)) :=
  if (sp_X4_isGood N G x1) = 0 then (((-1 : Int32), (N, G))) else (if (sp_X2_isSlot x2) = 0 then (((-1 : Int32), (N, G))) else (if (sp_X4_isPlaced N G x1) = 0 then (if (sp_X4_isGood N G (G ((ix x2)))) = 0 then (if (sp_X4_bears N G x2 x1) = 0 then (((-2 : Int32), (N, G))) else (let k53_1 : ((Nat → Int32) × (Nat → Int32)) := sp_X4_standIn N G x1 x2; let N2 : Nat → Int32 := k53_1.1; let G3 : Nat → Int32 := k53_1.2; ((sp_X2_walkTo x2), (N2, G3)))) else (((-2 : Int32), (N, G)))) else (((-2 : Int32), (N, G)))))
set_option maxHeartbeats 4000000 in
set_option maxRecDepth 100000 in
theorem c_X4_putIntoSlot (l : Launch) (D : va_G) (cI cC cW : ClassId) (t : Nat → Nat) (a : Nat → Nat) (sz : Nat) (N : Nat → Int32) (G : Nat → Int32) (x1 x2 : Int32) (hsf : sfN N) : Met l yX4_putIntoSlot wsX4_putIntoSlot ({ frames := 2, cells := 0, slots := 0, locals := 42 }) (va_Pc [.ref (a 0), .int x1, .int x2] (rwP D (tyL cI cC cW) (wg cI a N G) t sz)) (va_Qi (fun (r : Int32) (u : ((Nat → Int32) × (Nat → Int32))) => (r, u) = sp_X4_putIntoSlot N G x1 x2) (fun u => rwB D (va_A (wg cI a N G) sz) (wg cI a u.1 u.2)) (va_A (wg cI a N G) sz)) 0 0 (va_A (wg cI a N G) sz) := by
  refine Met.ofW (cc := cX4_putIntoSlot) (maxL := 3) (ret := (some .int)) (by decide) rfl ?_
  intro p e s m args below meth c s₁ B hml hv
  obtain ⟨rfl, hsz, hP, hK, hD0, hX⟩ := hv
  have hx := B.exec
  have hb := B.bytes
  have hr := B.returns
  have hts := atoms_spec (ws := wsX4_putIntoSlot) B.pre
  have hown : s.vm.findClass RX4 = some m.cls := findClass_of_methodNamed B.named
  have hlocks := B.notSynchronized
  subst hsz
  have hD := hD0.self (sz := s.heap.size)
  generalize hAe : va_A (wg cI a N G) s.heap.size = A at hD hX ⊢
  have hA : ∀ q : Nat, s.heap.size ≤ q → A q := fun q h => by rw [← hAe]; exact Or.inr h
  have hS : va_S A s.heap s.heap [] := va_S.rf
  have wd1 : (Cond.fieldLink RX4 38 "PickSlots$Warehouse" "goodInSlot" "[I").before [.ref (a 0), .int x1, .int x2].toArray s = true := hts _ (List.mem_of_getElem? (i := 1) rfl)
  have hi4 : ∀ w ∈ wsX40, w ∈ wsX4_putIntoSlot := fun w h => List.mem_cons_of_mem _ (List.mem_append_right _ (h))
  have CF : CallFix p m c cX4_putIntoSlot 3 s [.ref (a 0), .int x1, .int x2].toArray wsX4_putIntoSlot RX4 := ⟨hx, hb, hml, hown, hts⟩
  have hl := lv_entry ([.ref (a 0), .int x1, .int x2]) (n := 3) (Nat.le_of_ble_eq_true rfl)
  rw [lg_entry_eq]
  generalize (lg_sl ([.ref (a 0), .int x1, .int x2]) ++ List.replicate (3 - (lg_sl ([.ref (a 0), .int x1, .int x2])).length) Slot.unset).toArray = ls at hl ⊢
  have hl : lv_has ls 3 [(0, .ref (a 0)), (1, .int x1), (2, .int x2)] := hl
  refine lv_aload_n hx hb dX4_putIntoSlot_0 rfl (lv_at hl 0 rfl) ?_
  refine lv_iload_n hx hb dX4_putIntoSlot_1 rfl (lv_at hl 1 rfl) ?_
  refine roV CF (c_X4_isGood l D cI cC cW t _ _ _ _ ) (cwV 1 hts gX4_putIntoSlot_X4_isGood rfl rfl rfl (by decide +kernel) ⟨Nat.le_of_ble_eq_true rfl, Nat.le_of_ble_eq_true rfl⟩) hP hK hX hS 0 3 wg_0 rfl rfl hl.1 rfl (Nat.le_of_ble_eq_true rfl) dX4_putIntoSlot_2 ⟨Nat.zero_le _, Nat.zero_le _⟩ ?_
  refine lv_if_eq (tgt := 15) hx hb dX4_putIntoSlot_5 (by decide) (fun c5 => ?_) (fun c5 => ?_)
  · refine lv_iconst (v := -1) hx hb dX4_putIntoSlot_15 (by decide) ?_
    exact rw_ret (_, _) hx hb hr hP hD hS (Eq.trans (if_pos c5) (rfl)) dX4_putIntoSlot_16 hlocks
  · refine lv_iload_n hx hb dX4_putIntoSlot_8 rfl (lv_at hl 2 rfl) ?_
    refine roS CF (c_X2_isSlot l D cI cC cW t _ ) (va_cwS 1 hts gX4_putIntoSlot_X2_isSlot rfl rfl rfl (by decide +kernel) ⟨Nat.le_of_ble_eq_true rfl, Nat.le_of_ble_eq_true rfl⟩) vP_nil hK hX hS rfl hl.1 rfl (Nat.le_of_ble_eq_true rfl) dX4_putIntoSlot_9 ⟨Nat.zero_le _, Nat.zero_le _⟩ ?_
    refine lv_if_ne (tgt := 17) hx hb dX4_putIntoSlot_12 (by decide) (fun c12 => ?_) (fun c12 => ?_)
    · refine lv_aload_n hx hb dX4_putIntoSlot_17 rfl (lv_at hl 0 rfl) ?_
      refine lv_iload_n hx hb dX4_putIntoSlot_18 rfl (lv_at hl 1 rfl) ?_
      refine roV CF (c_X4_isPlaced l D cI cC cW t _ _ _ _ (by first | (with_reducible first | assumption | exact g20 (by assumption) (by assumption) | exact sl60 (by assumption) | exact pl60 (by assumption) | exact cg60 (by assumption) | exact sea4 (by assumption) | exact in3 (by assumption) | exact dm80 (by assumption) (by assumption) | exact s4 (by assumption)) | (with_reducible (repeat (refine sf_u (by omega) ?_)); assumption) | (simp (disch := omega) only [pk_un]; (with_reducible first | assumption | exact g20 (by assumption) (by assumption) | exact sl60 (by assumption) | exact pl60 (by assumption) | exact cg60 (by assumption) | exact sea4 (by assumption) | exact in3 (by assumption) | exact dm80 (by assumption) (by assumption) | exact s4 (by assumption))) | (unfold vp_in; decide))) (cwV 1 hts gX4_putIntoSlot_X4_isPlaced rfl rfl rfl (by decide +kernel) ⟨Nat.le_of_ble_eq_true rfl, Nat.le_of_ble_eq_true rfl⟩) hP hK hX hS 0 3 wg_0 rfl rfl hl.1 rfl (Nat.le_of_ble_eq_true rfl) dX4_putIntoSlot_19 ⟨Nat.zero_le _, Nat.zero_le _⟩ ?_
      refine lv_if_ne (tgt := 47) hx hb dX4_putIntoSlot_22 (by decide) (fun c22 => ?_) (fun c22 => ?_)
      · refine lv_bipush (v := -2) hx hb dX4_putIntoSlot_47 (by decide) ?_
        exact rw_ret (_, _) hx hb hr hP hD hS (Eq.trans (if_neg c5) (Eq.trans (if_neg c12) (Eq.trans (if_neg c22) (rfl)))) dX4_putIntoSlot_49 hlocks
      · refine lv_aload_n hx hb dX4_putIntoSlot_25 rfl (lv_at hl 0 rfl) ?_
        refine lv_aload_n hx hb dX4_putIntoSlot_26 rfl (lv_at hl 0 rfl) ?_
        refine va_get (D := D) (ci := 3) (C := RX4) (T := TX4) (N := 13) hx hb hts hi4 hown hK hP 0 wg_0 rfl 8 (by decide) wd1 (fun _ h9 => h9) rfl dX4_putIntoSlot_27 ?_
        refine lv_iload_n hx hb dX4_putIntoSlot_30 rfl (lv_at hl 2 rfl) ?_
        refine va_iald hx hb hK hP 9 0 wg_9 rfl (by first | (with_reducible first | assumption | exact g20 (by assumption) (by assumption) | exact sl60 (by assumption) | exact pl60 (by assumption) | exact cg60 (by assumption) | exact sea4 (by assumption) | exact in3 (by assumption) | exact dm80 (by assumption) (by assumption) | exact s4 (by assumption)) | (with_reducible (repeat (refine sf_u (by omega) ?_)); assumption) | (simp (disch := omega) only [pk_un]; (with_reducible first | assumption | exact g20 (by assumption) (by assumption) | exact sl60 (by assumption) | exact pl60 (by assumption) | exact cg60 (by assumption) | exact sea4 (by assumption) | exact in3 (by assumption) | exact dm80 (by assumption) (by assumption) | exact s4 (by assumption))) | (unfold vp_in; decide)) dX4_putIntoSlot_31 ?_
        refine roV CF (c_X4_isGood l D cI cC cW t _ _ _ _ ) (cwV 1 hts gX4_putIntoSlot_X4_isGood rfl rfl rfl (by decide +kernel) ⟨Nat.le_of_ble_eq_true rfl, Nat.le_of_ble_eq_true rfl⟩) hP hK hX hS 0 3 wg_0 rfl rfl hl.1 rfl (Nat.le_of_ble_eq_true rfl) dX4_putIntoSlot_32 ⟨Nat.zero_le _, Nat.zero_le _⟩ ?_
        refine lv_if_ne (tgt := 47) hx hb dX4_putIntoSlot_35 (by decide) (fun c35 => ?_) (fun c35 => ?_)
        · refine lv_bipush (v := -2) hx hb dX4_putIntoSlot_47 (by decide) ?_
          exact rw_ret (_, _) hx hb hr hP hD hS (Eq.trans (if_neg c5) (Eq.trans (if_neg c12) (Eq.trans (if_pos c22) (Eq.trans (if_neg c35) (rfl))))) dX4_putIntoSlot_49 hlocks
        · refine lv_aload_n hx hb dX4_putIntoSlot_38 rfl (lv_at hl 0 rfl) ?_
          refine lv_iload_n hx hb dX4_putIntoSlot_39 rfl (lv_at hl 2 rfl) ?_
          refine lv_iload_n hx hb dX4_putIntoSlot_40 rfl (lv_at hl 1 rfl) ?_
          refine roV CF (c_X4_bears l D cI cC cW t _ _ _ _ _ (by first | (with_reducible first | assumption | exact g20 (by assumption) (by assumption) | exact sl60 (by assumption) | exact pl60 (by assumption) | exact cg60 (by assumption) | exact sea4 (by assumption) | exact in3 (by assumption) | exact dm80 (by assumption) (by assumption) | exact s4 (by assumption)) | (with_reducible (repeat (refine sf_u (by omega) ?_)); assumption) | (simp (disch := omega) only [pk_un]; (with_reducible first | assumption | exact g20 (by assumption) (by assumption) | exact sl60 (by assumption) | exact pl60 (by assumption) | exact cg60 (by assumption) | exact sea4 (by assumption) | exact in3 (by assumption) | exact dm80 (by assumption) (by assumption) | exact s4 (by assumption))) | (unfold vp_in; decide))) (cwV 2 hts gX4_putIntoSlot_X4_bears rfl rfl rfl (by decide +kernel) ⟨Nat.le_of_ble_eq_true rfl, Nat.le_of_ble_eq_true rfl⟩) hP hK hX hS 0 3 wg_0 rfl rfl hl.1 rfl (Nat.le_of_ble_eq_true rfl) dX4_putIntoSlot_41 ⟨Nat.zero_le _, Nat.zero_le _⟩ ?_
          refine lv_if_ne (tgt := 50) hx hb dX4_putIntoSlot_44 (by decide) (fun c44 => ?_) (fun c44 => ?_)
          · refine lv_aload_n hx hb dX4_putIntoSlot_50 rfl (lv_at hl 0 rfl) ?_
            refine lv_iload_n hx hb dX4_putIntoSlot_51 rfl (lv_at hl 1 rfl) ?_
            refine lv_iload_n hx hb dX4_putIntoSlot_52 rfl (lv_at hl 2 rfl) ?_
            refine rwVv CF (c_X4_standIn l D cI cC cW t _ _ _ _ _ _ (by first | (with_reducible first | assumption | exact g20 (by assumption) (by assumption) | exact sl60 (by assumption) | exact pl60 (by assumption) | exact cg60 (by assumption) | exact sea4 (by assumption) | exact in3 (by assumption) | exact dm80 (by assumption) (by assumption) | exact s4 (by assumption)) | (with_reducible (repeat (refine sf_u (by omega) ?_)); assumption) | (simp (disch := omega) only [pk_un]; (with_reducible first | assumption | exact g20 (by assumption) (by assumption) | exact sl60 (by assumption) | exact pl60 (by assumption) | exact cg60 (by assumption) | exact sea4 (by assumption) | exact in3 (by assumption) | exact dm80 (by assumption) (by assumption) | exact s4 (by assumption))) | (unfold vp_in; decide)) (by first | (with_reducible first | assumption | exact g20 (by assumption) (by assumption) | exact sl60 (by assumption) | exact pl60 (by assumption) | exact cg60 (by assumption) | exact sea4 (by assumption) | exact in3 (by assumption) | exact dm80 (by assumption) (by assumption) | exact s4 (by assumption)) | (with_reducible (repeat (refine sf_u (by omega) ?_)); assumption) | (simp (disch := omega) only [pk_un]; (with_reducible first | assumption | exact g20 (by assumption) (by assumption) | exact sl60 (by assumption) | exact pl60 (by assumption) | exact cg60 (by assumption) | exact sea4 (by assumption) | exact in3 (by assumption) | exact dm80 (by assumption) (by assumption) | exact s4 (by assumption))) | (unfold vp_in; decide))) (cwV 2 hts gX4_putIntoSlot_X4_standIn rfl rfl rfl (by decide +kernel) ⟨Nat.le_of_ble_eq_true rfl, Nat.le_of_ble_eq_true rfl⟩) hP hD hK hX hS hA 0 3 wg_0 rfl rfl hl.1 rfl (Nat.le_of_ble_eq_true rfl) dX4_putIntoSlot_53 ⟨Nat.zero_le _, Nat.zero_le _⟩ (fun H locs hP hD hS => ?_)
            refine lv_iload_n hx hb dX4_putIntoSlot_56 rfl (lv_at hl 2 rfl) ?_
            refine roS CF (c_X2_walkTo l D cI cC cW t _ ) (va_cwS 1 hts gX4_putIntoSlot_X2_walkTo rfl rfl rfl (by decide +kernel) ⟨Nat.le_of_ble_eq_true rfl, Nat.le_of_ble_eq_true rfl⟩) vP_nil hK hX hS rfl hl.1 rfl (Nat.le_of_ble_eq_true rfl) dX4_putIntoSlot_57 ⟨Nat.zero_le _, Nat.zero_le _⟩ ?_
            exact rw_ret (_, _) hx hb hr hP hD hS (Eq.trans (if_neg c5) (Eq.trans (if_neg c12) (Eq.trans (if_pos c22) (Eq.trans (if_pos c35) (Eq.trans (if_neg c44) (rfl)))))) dX4_putIntoSlot_60 hlocks
          · refine lv_bipush (v := -2) hx hb dX4_putIntoSlot_47 (by decide) ?_
            exact rw_ret (_, _) hx hb hr hP hD hS (Eq.trans (if_neg c5) (Eq.trans (if_neg c12) (Eq.trans (if_pos c22) (Eq.trans (if_pos c35) (Eq.trans (if_pos c44) (rfl)))))) dX4_putIntoSlot_49 hlocks
    · refine lv_iconst (v := -1) hx hb dX4_putIntoSlot_15 (by decide) ?_
      exact rw_ret (_, _) hx hb hr hP hD hS (Eq.trans (if_neg c5) (Eq.trans (if_pos c12) (rfl))) dX4_putIntoSlot_16 hlocks

def sp_X4_takeOutOfSlot (N : Nat → Int32) (G : Nat → Int32) (x1 : Int32) : Int32 × ((Nat → Int32) × (Nat → Int32)) :=
  if (sp_X4_isGood N G x1) = 0 then (((-1 : Int32), (N, G))) else (if (sp_X4_isPlaced N G x1) = 0 then (((-2 : Int32), (N, G))) else (let N1 : Nat → Int32 := upd N (24 + 11 * (ix x1)) ((N (24 + 11 * (ix x1))) + (N (23 + 11 * (ix x1)))); let N2 : Nat → Int32 := upd N1 (23 + 11 * (ix x1)) (0 : Int32); let G3 : Nat → Int32 := upd G ((ix (N2 (22 + 11 * (ix x1))))) (-1 : Int32); let N4 : Nat → Int32 := upd N2 (22 + 11 * (ix x1)) (-1 : Int32); ((N (23 + 11 * (ix x1))), (N4, G3))))
set_option maxHeartbeats 4000000 in
set_option maxRecDepth 100000 in
theorem c_X4_takeOutOfSlot (l : Launch) (D : va_G) (cI cC cW : ClassId) (t : Nat → Nat) (a : Nat → Nat) (sz : Nat) (N : Nat → Int32) (G : Nat → Int32) (x1 : Int32) (hsf : sfN N) : Met l yX4_takeOutOfSlot wsX4_takeOutOfSlot ({ frames := 2, cells := 0, slots := 0, locals := 41 }) (va_Pc [.ref (a 0), .int x1] (rwP D (tyL cI cC cW) (wg cI a N G) t sz)) (va_Qi (fun (r : Int32) (u : ((Nat → Int32) × (Nat → Int32))) => (r, u) = sp_X4_takeOutOfSlot N G x1) (fun u => rwB D (va_A (wg cI a N G) sz) (wg cI a u.1 u.2)) (va_A (wg cI a N G) sz)) 0 0 (va_A (wg cI a N G) sz) := by
  refine Met.ofW (cc := cX4_takeOutOfSlot) (maxL := 3) (ret := (some .int)) (by decide) rfl ?_
  intro p e s m args below meth c s₁ B hml hv
  obtain ⟨rfl, hsz, hP, hK, hD0, hX⟩ := hv
  have hx := B.exec
  have hb := B.bytes
  have hr := B.returns
  have hts := atoms_spec (ws := wsX4_takeOutOfSlot) B.pre
  have hown : s.vm.findClass RX4 = some m.cls := findClass_of_methodNamed B.named
  have hlocks := B.notSynchronized
  subst hsz
  have hD := hD0.self (sz := s.heap.size)
  generalize hAe : va_A (wg cI a N G) s.heap.size = A at hD hX ⊢
  have hA : ∀ q : Nat, s.heap.size ≤ q → A q := fun q h => by rw [← hAe]; exact Or.inr h
  have hS : va_S A s.heap s.heap [] := va_S.rf
  have wd1 : (Cond.fieldLink RX4 24 "PickSlots$Warehouse" "unitsInSlot" "[I").before [.ref (a 0), .int x1].toArray s = true := hts _ (List.mem_of_getElem? (i := 1) rfl)
  have wd2 : (Cond.fieldLink RX4 27 "PickSlots$Warehouse" "unitsInStore" "[I").before [.ref (a 0), .int x1].toArray s = true := hts _ (List.mem_of_getElem? (i := 2) rfl)
  have wd3 : (Cond.fieldLink RX4 38 "PickSlots$Warehouse" "goodInSlot" "[I").before [.ref (a 0), .int x1].toArray s = true := hts _ (List.mem_of_getElem? (i := 3) rfl)
  have wd4 : (Cond.fieldLink RX4 21 "PickSlots$Warehouse" "slotOfGood" "[I").before [.ref (a 0), .int x1].toArray s = true := hts _ (List.mem_of_getElem? (i := 4) rfl)
  have hi4 : ∀ w ∈ wsX40, w ∈ wsX4_takeOutOfSlot := fun w h => List.mem_cons_of_mem _ (List.mem_append_right _ (h))
  have CF : CallFix p m c cX4_takeOutOfSlot 3 s [.ref (a 0), .int x1].toArray wsX4_takeOutOfSlot RX4 := ⟨hx, hb, hml, hown, hts⟩
  have hl := lv_entry ([.ref (a 0), .int x1]) (n := 3) (Nat.le_of_ble_eq_true rfl)
  rw [lg_entry_eq]
  generalize (lg_sl ([.ref (a 0), .int x1]) ++ List.replicate (3 - (lg_sl ([.ref (a 0), .int x1])).length) Slot.unset).toArray = ls at hl ⊢
  have hl : lv_has ls 3 [(0, .ref (a 0)), (1, .int x1)] := hl
  refine lv_aload_n hx hb dX4_takeOutOfSlot_0 rfl (lv_at hl 0 rfl) ?_
  refine lv_iload_n hx hb dX4_takeOutOfSlot_1 rfl (lv_at hl 1 rfl) ?_
  refine roV CF (c_X4_isGood l D cI cC cW t _ _ _ _ ) (cwV 1 hts gX4_takeOutOfSlot_X4_isGood rfl rfl rfl (by decide +kernel) ⟨Nat.le_of_ble_eq_true rfl, Nat.le_of_ble_eq_true rfl⟩) hP hK hX hS 0 3 wg_0 rfl rfl hl.1 rfl (Nat.le_of_ble_eq_true rfl) dX4_takeOutOfSlot_2 ⟨Nat.zero_le _, Nat.zero_le _⟩ ?_
  refine lv_if_ne (tgt := 10) hx hb dX4_takeOutOfSlot_5 (by decide) (fun c5 => ?_) (fun c5 => ?_)
  · refine lv_aload_n hx hb dX4_takeOutOfSlot_10 rfl (lv_at hl 0 rfl) ?_
    refine lv_iload_n hx hb dX4_takeOutOfSlot_11 rfl (lv_at hl 1 rfl) ?_
    refine roV CF (c_X4_isPlaced l D cI cC cW t _ _ _ _ (by first | (with_reducible first | assumption | exact g20 (by assumption) (by assumption) | exact sl60 (by assumption) | exact pl60 (by assumption) | exact cg60 (by assumption) | exact sea4 (by assumption) | exact in3 (by assumption) | exact dm80 (by assumption) (by assumption) | exact s4 (by assumption)) | (with_reducible (repeat (refine sf_u (by omega) ?_)); assumption) | (simp (disch := omega) only [pk_un]; (with_reducible first | assumption | exact g20 (by assumption) (by assumption) | exact sl60 (by assumption) | exact pl60 (by assumption) | exact cg60 (by assumption) | exact sea4 (by assumption) | exact in3 (by assumption) | exact dm80 (by assumption) (by assumption) | exact s4 (by assumption))) | (unfold vp_in; decide))) (cwV 1 hts gX4_takeOutOfSlot_X4_isPlaced rfl rfl rfl (by decide +kernel) ⟨Nat.le_of_ble_eq_true rfl, Nat.le_of_ble_eq_true rfl⟩) hP hK hX hS 0 3 wg_0 rfl rfl hl.1 rfl (Nat.le_of_ble_eq_true rfl) dX4_takeOutOfSlot_12 ⟨Nat.zero_le _, Nat.zero_le _⟩ ?_
    refine lv_if_ne (tgt := 21) hx hb dX4_takeOutOfSlot_15 (by decide) (fun c15 => ?_) (fun c15 => ?_)
    · refine lv_aload_n hx hb dX4_takeOutOfSlot_21 rfl (lv_at hl 0 rfl) ?_
      refine va_get (D := D) (ci := 3) (C := RX4) (T := TX4) (N := 13) hx hb hts hi4 hown hK hP 0 wg_0 rfl 4 (by decide) wd1 (fun _ h9 => h9) rfl dX4_takeOutOfSlot_22 ?_
      refine lv_iload_n hx hb dX4_takeOutOfSlot_25 rfl (lv_at hl 1 rfl) ?_
      refine va_iald hx hb hK hP 5 0 wg_5 rfl (by first | (with_reducible first | assumption | exact g20 (by assumption) (by assumption) | exact sl60 (by assumption) | exact pl60 (by assumption) | exact cg60 (by assumption) | exact sea4 (by assumption) | exact in3 (by assumption) | exact dm80 (by assumption) (by assumption) | exact s4 (by assumption)) | (with_reducible (repeat (refine sf_u (by omega) ?_)); assumption) | (simp (disch := omega) only [pk_un]; (with_reducible first | assumption | exact g20 (by assumption) (by assumption) | exact sl60 (by assumption) | exact pl60 (by assumption) | exact cg60 (by assumption) | exact sea4 (by assumption) | exact in3 (by assumption) | exact dm80 (by assumption) (by assumption) | exact s4 (by assumption))) | (unfold vp_in; decide)) dX4_takeOutOfSlot_26 ?_
      refine lv_istore_n (lv' := [(2, .int _), (0, .ref _), (1, .int _)]) hx hb dX4_takeOutOfSlot_27 rfl hl (by decide) rfl (fun ls hl => ?_)
      refine lv_aload_n hx hb dX4_takeOutOfSlot_28 rfl (lv_at hl 1 rfl) ?_
      refine va_get (D := D) (ci := 3) (C := RX4) (T := TX4) (N := 13) hx hb hts hi4 hown hK hP 0 wg_0 rfl 5 (by decide) wd2 (fun _ h9 => h9) rfl dX4_takeOutOfSlot_29 ?_
      refine lv_iload_n hx hb dX4_takeOutOfSlot_32 rfl (lv_at hl 2 rfl) ?_
      refine lv_dup2_11 hx hb dX4_takeOutOfSlot_33 rfl rfl ?_
      refine va_iald hx hb hK hP 6 0 wg_6 rfl (by first | (with_reducible first | assumption | exact g20 (by assumption) (by assumption) | exact sl60 (by assumption) | exact pl60 (by assumption) | exact cg60 (by assumption) | exact sea4 (by assumption) | exact in3 (by assumption) | exact dm80 (by assumption) (by assumption) | exact s4 (by assumption)) | (with_reducible (repeat (refine sf_u (by omega) ?_)); assumption) | (simp (disch := omega) only [pk_un]; (with_reducible first | assumption | exact g20 (by assumption) (by assumption) | exact sl60 (by assumption) | exact pl60 (by assumption) | exact cg60 (by assumption) | exact sea4 (by assumption) | exact in3 (by assumption) | exact dm80 (by assumption) (by assumption) | exact s4 (by assumption))) | (unfold vp_in; decide)) dX4_takeOutOfSlot_34 ?_
      refine lv_iload_n hx hb dX4_takeOutOfSlot_35 rfl (lv_at hl 0 rfl) ?_
      refine lv_iadd hx hb dX4_takeOutOfSlot_36 ?_
      refine my_iast hx hb hK hP hD hS 6 0 wg_6 rfl (wg_s6 _ _) (by first | (with_reducible first | assumption | exact g20 (by assumption) (by assumption) | exact sl60 (by assumption) | exact pl60 (by assumption) | exact cg60 (by assumption) | exact sea4 (by assumption) | exact in3 (by assumption) | exact dm80 (by assumption) (by assumption) | exact s4 (by assumption)) | (with_reducible (repeat (refine sf_u (by omega) ?_)); assumption) | (simp (disch := omega) only [pk_un]; (with_reducible first | assumption | exact g20 (by assumption) (by assumption) | exact sl60 (by assumption) | exact pl60 (by assumption) | exact cg60 (by assumption) | exact sea4 (by assumption) | exact in3 (by assumption) | exact dm80 (by assumption) (by assumption) | exact s4 (by assumption))) | (unfold vp_in; decide)) dX4_takeOutOfSlot_37 (fun H locs hP hD hS => ?_)
      refine lv_aload_n hx hb dX4_takeOutOfSlot_38 rfl (lv_at hl 1 rfl) ?_
      refine va_get (D := D) (ci := 3) (C := RX4) (T := TX4) (N := 13) hx hb hts hi4 hown hK hP 0 wg_0 rfl 4 (by decide) wd1 (fun _ h9 => h9) rfl dX4_takeOutOfSlot_39 ?_
      refine lv_iload_n hx hb dX4_takeOutOfSlot_42 rfl (lv_at hl 2 rfl) ?_
      refine lv_iconst (v := 0) hx hb dX4_takeOutOfSlot_43 (by decide) ?_
      refine my_iast hx hb hK hP hD hS 5 0 wg_5 rfl (wg_s5 _ _) (by first | (with_reducible first | assumption | exact g20 (by assumption) (by assumption) | exact sl60 (by assumption) | exact pl60 (by assumption) | exact cg60 (by assumption) | exact sea4 (by assumption) | exact in3 (by assumption) | exact dm80 (by assumption) (by assumption) | exact s4 (by assumption)) | (with_reducible (repeat (refine sf_u (by omega) ?_)); assumption) | (simp (disch := omega) only [pk_un]; (with_reducible first | assumption | exact g20 (by assumption) (by assumption) | exact sl60 (by assumption) | exact pl60 (by assumption) | exact cg60 (by assumption) | exact sea4 (by assumption) | exact in3 (by assumption) | exact dm80 (by assumption) (by assumption) | exact s4 (by assumption))) | (unfold vp_in; decide)) dX4_takeOutOfSlot_44 (fun H locs hP hD hS => ?_)
      refine lv_aload_n hx hb dX4_takeOutOfSlot_45 rfl (lv_at hl 1 rfl) ?_
      refine va_get (D := D) (ci := 3) (C := RX4) (T := TX4) (N := 13) hx hb hts hi4 hown hK hP 0 wg_0 rfl 8 (by decide) wd3 (fun _ h9 => h9) rfl dX4_takeOutOfSlot_46 ?_
      refine lv_aload_n hx hb dX4_takeOutOfSlot_49 rfl (lv_at hl 1 rfl) ?_
      refine va_get (D := D) (ci := 3) (C := RX4) (T := TX4) (N := 13) hx hb hts hi4 hown hK hP 0 wg_0 rfl 3 (by decide) wd4 (fun _ h9 => h9) rfl dX4_takeOutOfSlot_50 ?_
      refine lv_iload_n hx hb dX4_takeOutOfSlot_53 rfl (lv_at hl 2 rfl) ?_
      refine va_iald hx hb hK hP 4 0 wg_4 rfl (by first | (with_reducible first | assumption | exact g20 (by assumption) (by assumption) | exact sl60 (by assumption) | exact pl60 (by assumption) | exact cg60 (by assumption) | exact sea4 (by assumption) | exact in3 (by assumption) | exact dm80 (by assumption) (by assumption) | exact s4 (by assumption)) | (with_reducible (repeat (refine sf_u (by omega) ?_)); assumption) | (simp (disch := omega) only [pk_un]; (with_reducible first | assumption | exact g20 (by assumption) (by assumption) | exact sl60 (by assumption) | exact pl60 (by assumption) | exact cg60 (by assumption) | exact sea4 (by assumption) | exact in3 (by assumption) | exact dm80 (by assumption) (by assumption) | exact s4 (by assumption))) | (unfold vp_in; decide)) dX4_takeOutOfSlot_54 ?_
      refine lv_iconst (v := -1) hx hb dX4_takeOutOfSlot_55 (by decide) ?_
      refine my_iast hx hb hK hP hD hS 9 0 wg_9 rfl (wg_s9 _ _) (by first | (with_reducible first | assumption | exact g20 (by assumption) (by assumption) | exact sl60 (by assumption) | exact pl60 (by assumption) | exact cg60 (by assumption) | exact sea4 (by assumption) | exact in3 (by assumption) | exact dm80 (by assumption) (by assumption) | exact s4 (by assumption)) | (with_reducible (repeat (refine sf_u (by omega) ?_)); assumption) | (simp (disch := omega) only [pk_un]; (with_reducible first | assumption | exact g20 (by assumption) (by assumption) | exact sl60 (by assumption) | exact pl60 (by assumption) | exact cg60 (by assumption) | exact sea4 (by assumption) | exact in3 (by assumption) | exact dm80 (by assumption) (by assumption) | exact s4 (by assumption))) | (unfold vp_in; decide)) dX4_takeOutOfSlot_56 (fun H locs hP hD hS => ?_)
      refine lv_aload_n hx hb dX4_takeOutOfSlot_57 rfl (lv_at hl 1 rfl) ?_
      refine va_get (D := D) (ci := 3) (C := RX4) (T := TX4) (N := 13) hx hb hts hi4 hown hK hP 0 wg_0 rfl 3 (by decide) wd4 (fun _ h9 => h9) rfl dX4_takeOutOfSlot_58 ?_
      refine lv_iload_n hx hb dX4_takeOutOfSlot_61 rfl (lv_at hl 2 rfl) ?_
      refine lv_iconst (v := -1) hx hb dX4_takeOutOfSlot_62 (by decide) ?_
      refine my_iast hx hb hK hP hD hS 4 0 wg_4 rfl (wg_s4 _ _) (by first | (with_reducible first | assumption | exact g20 (by assumption) (by assumption) | exact sl60 (by assumption) | exact pl60 (by assumption) | exact cg60 (by assumption) | exact sea4 (by assumption) | exact in3 (by assumption) | exact dm80 (by assumption) (by assumption) | exact s4 (by assumption)) | (with_reducible (repeat (refine sf_u (by omega) ?_)); assumption) | (simp (disch := omega) only [pk_un]; (with_reducible first | assumption | exact g20 (by assumption) (by assumption) | exact sl60 (by assumption) | exact pl60 (by assumption) | exact cg60 (by assumption) | exact sea4 (by assumption) | exact in3 (by assumption) | exact dm80 (by assumption) (by assumption) | exact s4 (by assumption))) | (unfold vp_in; decide)) dX4_takeOutOfSlot_63 (fun H locs hP hD hS => ?_)
      refine lv_iload_n hx hb dX4_takeOutOfSlot_64 rfl (lv_at hl 0 rfl) ?_
      exact rw_ret (_, _) hx hb hr hP hD hS (Eq.trans (if_neg c5) (Eq.trans (if_neg c15) (rfl))) dX4_takeOutOfSlot_65 hlocks
    · refine lv_bipush (v := -2) hx hb dX4_takeOutOfSlot_18 (by decide) ?_
      exact rw_ret (_, _) hx hb hr hP hD hS (Eq.trans (if_neg c5) (Eq.trans (if_pos c15) (rfl))) dX4_takeOutOfSlot_20 hlocks
  · refine lv_iconst (v := -1) hx hb dX4_takeOutOfSlot_8 (by decide) ?_
    exact rw_ret (_, _) hx hb hr hP hD hS (Eq.trans (if_pos c5) (rfl)) dX4_takeOutOfSlot_9 hlocks

def sp_X4_bring (N : Nat → Int32) (G : Nat → Int32) (x1 x2 : Int32) : Int32 × ((Nat → Int32) × (Nat → Int32)) :=
  let N1 : Nat → Int32 := upd N (24 + 11 * (ix x1)) ((N (24 + 11 * (ix x1))) - x2); let N2 : Nat → Int32 := upd N1 (23 + 11 * (ix x1)) ((N1 (23 + 11 * (ix x1))) + x2); let N3 : Nat → Int32 := upd N2 (8) ((N2 8) + (sp_X4_tripsFor N G (x2 * (N (16 + 11 * (ix x1)))))); let N4 : Nat → Int32 := upd N3 (6) ((N3 6) + ((sp_X4_tripsFor N G (x2 * (N (16 + 11 * (ix x1))))) * ((N (2 + (ix (0 : Int32)))) + (sp_X2_walkTo (N (22 + 11 * (ix x1))))))); (((sp_X4_tripsFor N G (x2 * (N (16 + 11 * (ix x1))))) * ((N (2 + (ix (0 : Int32)))) + (sp_X2_walkTo (N (22 + 11 * (ix x1)))))), (N4, G))
set_option maxHeartbeats 4000000 in
set_option maxRecDepth 100000 in
theorem c_X4_bring (l : Launch) (D : va_G) (cI cC cW : ClassId) (t : Nat → Nat) (a : Nat → Nat) (sz : Nat) (N : Nat → Int32) (G : Nat → Int32) (x1 x2 : Int32) (h1 : vp_in x1 20) : Met l yX4_bring wsX4_bring ({ frames := 1, cells := 0, slots := 0, locals := 22 }) (va_Pc [.ref (a 0), .int x1, .int x2] (rwP D (tyL cI cC cW) (wg cI a N G) t sz)) (va_Qi (fun (r : Int32) (u : ((Nat → Int32) × (Nat → Int32))) => (r, u) = sp_X4_bring N G x1 x2) (fun u => rwB D (va_A (wg cI a N G) sz) (wg cI a u.1 u.2)) (va_A (wg cI a N G) sz)) 0 0 (va_A (wg cI a N G) sz) := by
  refine Met.ofW (cc := cX4_bring) (maxL := 5) (ret := (some .int)) (by decide) rfl ?_
  intro p e s m args below meth c s₁ B hml hv
  obtain ⟨rfl, hsz, hP, hK, hD0, hX⟩ := hv
  have hx := B.exec
  have hb := B.bytes
  have hr := B.returns
  have hts := atoms_spec (ws := wsX4_bring) B.pre
  have hown : s.vm.findClass RX4 = some m.cls := findClass_of_methodNamed B.named
  have hlocks := B.notSynchronized
  subst hsz
  have hD := hD0.self (sz := s.heap.size)
  generalize hAe : va_A (wg cI a N G) s.heap.size = A at hD hX ⊢
  have hA : ∀ q : Nat, s.heap.size ≤ q → A q := fun q h => by rw [← hAe]; exact Or.inr h
  have hS : va_S A s.heap s.heap [] := va_S.rf
  have wd1 : (Cond.fieldLink RX4 9 "PickSlots$Warehouse" "weights" "[I").before [.ref (a 0), .int x1, .int x2].toArray s = true := hts _ (List.mem_of_getElem? (i := 1) rfl)
  have wd2 : (Cond.fieldLink RX4 41 "PickSlots$Warehouse" "settings" "[I").before [.ref (a 0), .int x1, .int x2].toArray s = true := hts _ (List.mem_of_getElem? (i := 2) rfl)
  have wd3 : (Cond.fieldLink RX4 21 "PickSlots$Warehouse" "slotOfGood" "[I").before [.ref (a 0), .int x1, .int x2].toArray s = true := hts _ (List.mem_of_getElem? (i := 3) rfl)
  have wd4 : (Cond.fieldLink RX4 27 "PickSlots$Warehouse" "unitsInStore" "[I").before [.ref (a 0), .int x1, .int x2].toArray s = true := hts _ (List.mem_of_getElem? (i := 4) rfl)
  have wd5 : (Cond.fieldLink RX4 24 "PickSlots$Warehouse" "unitsInSlot" "[I").before [.ref (a 0), .int x1, .int x2].toArray s = true := hts _ (List.mem_of_getElem? (i := 5) rfl)
  have wd6 : (Cond.fieldLink RX4 47 "PickSlots$Warehouse" "accounts" "LPickSlots$Accounts;").before [.ref (a 0), .int x1, .int x2].toArray s = true := hts _ (List.mem_of_getElem? (i := 6) rfl)
  have hi0 : ∀ w ∈ wsX00, w ∈ wsX4_bring := fun w h => List.mem_cons_of_mem _ (List.mem_append_right _ (h))
  have hi4 : ∀ w ∈ wsX40, w ∈ wsX4_bring := fun w h => List.mem_cons_of_mem _ (List.mem_append_left _ (List.mem_append_right _ (h)))
  have CF : CallFix p m c cX4_bring 5 s [.ref (a 0), .int x1, .int x2].toArray wsX4_bring RX4 := ⟨hx, hb, hml, hown, hts⟩
  have hl := lv_entry ([.ref (a 0), .int x1, .int x2]) (n := 5) (Nat.le_of_ble_eq_true rfl)
  rw [lg_entry_eq]
  generalize (lg_sl ([.ref (a 0), .int x1, .int x2]) ++ List.replicate (5 - (lg_sl ([.ref (a 0), .int x1, .int x2])).length) Slot.unset).toArray = ls at hl ⊢
  have hl : lv_has ls 5 [(0, .ref (a 0)), (1, .int x1), (2, .int x2)] := hl
  refine lv_aload_n hx hb dX4_bring_0 rfl (lv_at hl 0 rfl) ?_
  refine lv_iload_n hx hb dX4_bring_1 rfl (lv_at hl 2 rfl) ?_
  refine lv_aload_n hx hb dX4_bring_2 rfl (lv_at hl 0 rfl) ?_
  refine va_get (D := D) (ci := 3) (C := RX4) (T := TX4) (N := 13) hx hb hts hi4 hown hK hP 0 wg_0 rfl 0 (by decide) wd1 (fun _ h9 => h9) rfl dX4_bring_3 ?_
  refine lv_iload_n hx hb dX4_bring_6 rfl (lv_at hl 1 rfl) ?_
  refine va_iald hx hb hK hP 1 0 wg_1 rfl (by first | (with_reducible first | assumption | exact g20 (by assumption) (by assumption) | exact sl60 (by assumption) | exact pl60 (by assumption) | exact cg60 (by assumption) | exact sea4 (by assumption) | exact in3 (by assumption) | exact dm80 (by assumption) (by assumption) | exact s4 (by assumption)) | (with_reducible (repeat (refine sf_u (by omega) ?_)); assumption) | (simp (disch := omega) only [pk_un]; (with_reducible first | assumption | exact g20 (by assumption) (by assumption) | exact sl60 (by assumption) | exact pl60 (by assumption) | exact cg60 (by assumption) | exact sea4 (by assumption) | exact in3 (by assumption) | exact dm80 (by assumption) (by assumption) | exact s4 (by assumption))) | (unfold vp_in; decide)) dX4_bring_7 ?_
  refine lv_imul hx hb dX4_bring_8 ?_
  refine roV CF (c_X4_tripsFor l D cI cC cW t _ _ _ _ ) (cwV 1 hts gX4_bring_X4_tripsFor rfl rfl rfl (by decide +kernel) ⟨Nat.le_of_ble_eq_true rfl, Nat.le_of_ble_eq_true rfl⟩) hP hK hX hS 0 3 wg_0 rfl rfl hl.1 rfl (Nat.le_of_ble_eq_true rfl) dX4_bring_9 ⟨Nat.zero_le _, Nat.zero_le _⟩ ?_
  refine lv_istore_n (lv' := [(3, .int _), (0, .ref _), (1, .int _), (2, .int _)]) hx hb dX4_bring_12 rfl hl (by decide) rfl (fun ls hl => ?_)
  refine lv_iload_n hx hb dX4_bring_13 rfl (lv_at hl 0 rfl) ?_
  refine lv_aload_n hx hb dX4_bring_14 rfl (lv_at hl 1 rfl) ?_
  refine va_get (D := D) (ci := 3) (C := RX4) (T := TX4) (N := 13) hx hb hts hi4 hown hK hP 0 wg_0 rfl 9 (by decide) wd2 (fun _ h9 => h9) rfl dX4_bring_15 ?_
  refine lv_iconst (v := 0) hx hb dX4_bring_18 (by decide) ?_
  refine va_iald hx hb hK hP 10 0 wg_10 rfl (by first | (with_reducible first | assumption | exact g20 (by assumption) (by assumption) | exact sl60 (by assumption) | exact pl60 (by assumption) | exact cg60 (by assumption) | exact sea4 (by assumption) | exact in3 (by assumption) | exact dm80 (by assumption) (by assumption) | exact s4 (by assumption)) | (with_reducible (repeat (refine sf_u (by omega) ?_)); assumption) | (simp (disch := omega) only [pk_un]; (with_reducible first | assumption | exact g20 (by assumption) (by assumption) | exact sl60 (by assumption) | exact pl60 (by assumption) | exact cg60 (by assumption) | exact sea4 (by assumption) | exact in3 (by assumption) | exact dm80 (by assumption) (by assumption) | exact s4 (by assumption))) | (unfold vp_in; decide)) dX4_bring_19 ?_
  refine lv_top_eq (wg_rd10 (by first | (with_reducible first | assumption | exact g20 (by assumption) (by assumption) | exact sl60 (by assumption) | exact pl60 (by assumption) | exact cg60 (by assumption) | exact sea4 (by assumption) | exact in3 (by assumption) | exact dm80 (by assumption) (by assumption) | exact s4 (by assumption)) | (with_reducible (repeat (refine sf_u (by omega) ?_)); assumption) | (simp (disch := omega) only [pk_un]; (with_reducible first | assumption | exact g20 (by assumption) (by assumption) | exact sl60 (by assumption) | exact pl60 (by assumption) | exact cg60 (by assumption) | exact sea4 (by assumption) | exact in3 (by assumption) | exact dm80 (by assumption) (by assumption) | exact s4 (by assumption))) | (unfold vp_in; decide))) ?_
  refine lv_aload_n hx hb dX4_bring_20 rfl (lv_at hl 1 rfl) ?_
  refine va_get (D := D) (ci := 3) (C := RX4) (T := TX4) (N := 13) hx hb hts hi4 hown hK hP 0 wg_0 rfl 3 (by decide) wd3 (fun _ h9 => h9) rfl dX4_bring_21 ?_
  refine lv_iload_n hx hb dX4_bring_24 rfl (lv_at hl 2 rfl) ?_
  refine va_iald hx hb hK hP 4 0 wg_4 rfl (by first | (with_reducible first | assumption | exact g20 (by assumption) (by assumption) | exact sl60 (by assumption) | exact pl60 (by assumption) | exact cg60 (by assumption) | exact sea4 (by assumption) | exact in3 (by assumption) | exact dm80 (by assumption) (by assumption) | exact s4 (by assumption)) | (with_reducible (repeat (refine sf_u (by omega) ?_)); assumption) | (simp (disch := omega) only [pk_un]; (with_reducible first | assumption | exact g20 (by assumption) (by assumption) | exact sl60 (by assumption) | exact pl60 (by assumption) | exact cg60 (by assumption) | exact sea4 (by assumption) | exact in3 (by assumption) | exact dm80 (by assumption) (by assumption) | exact s4 (by assumption))) | (unfold vp_in; decide)) dX4_bring_25 ?_
  refine roS CF (c_X2_walkTo l D cI cC cW t _ ) (va_cwS 1 hts gX4_bring_X2_walkTo rfl rfl rfl (by decide +kernel) ⟨Nat.le_of_ble_eq_true rfl, Nat.le_of_ble_eq_true rfl⟩) vP_nil hK hX hS rfl hl.1 rfl (Nat.le_of_ble_eq_true rfl) dX4_bring_26 ⟨Nat.zero_le _, Nat.zero_le _⟩ ?_
  refine lv_iadd hx hb dX4_bring_29 ?_
  refine lv_imul hx hb dX4_bring_30 ?_
  refine lv_istore (lv' := [(4, .int _), (3, .int _), (0, .ref _), (1, .int _), (2, .int _)]) hx hb dX4_bring_31 hl (by decide) rfl (fun ls hl => ?_)
  refine lv_aload_n hx hb dX4_bring_33 rfl (lv_at hl 2 rfl) ?_
  refine va_get (D := D) (ci := 3) (C := RX4) (T := TX4) (N := 13) hx hb hts hi4 hown hK hP 0 wg_0 rfl 5 (by decide) wd4 (fun _ h9 => h9) rfl dX4_bring_34 ?_
  refine lv_iload_n hx hb dX4_bring_37 rfl (lv_at hl 3 rfl) ?_
  refine lv_dup2_11 hx hb dX4_bring_38 rfl rfl ?_
  refine va_iald hx hb hK hP 6 0 wg_6 rfl (by first | (with_reducible first | assumption | exact g20 (by assumption) (by assumption) | exact sl60 (by assumption) | exact pl60 (by assumption) | exact cg60 (by assumption) | exact sea4 (by assumption) | exact in3 (by assumption) | exact dm80 (by assumption) (by assumption) | exact s4 (by assumption)) | (with_reducible (repeat (refine sf_u (by omega) ?_)); assumption) | (simp (disch := omega) only [pk_un]; (with_reducible first | assumption | exact g20 (by assumption) (by assumption) | exact sl60 (by assumption) | exact pl60 (by assumption) | exact cg60 (by assumption) | exact sea4 (by assumption) | exact in3 (by assumption) | exact dm80 (by assumption) (by assumption) | exact s4 (by assumption))) | (unfold vp_in; decide)) dX4_bring_39 ?_
  refine lv_iload_n hx hb dX4_bring_40 rfl (lv_at hl 4 rfl) ?_
  refine lv_isub hx hb dX4_bring_41 ?_
  refine my_iast hx hb hK hP hD hS 6 0 wg_6 rfl (wg_s6 _ _) (by first | (with_reducible first | assumption | exact g20 (by assumption) (by assumption) | exact sl60 (by assumption) | exact pl60 (by assumption) | exact cg60 (by assumption) | exact sea4 (by assumption) | exact in3 (by assumption) | exact dm80 (by assumption) (by assumption) | exact s4 (by assumption)) | (with_reducible (repeat (refine sf_u (by omega) ?_)); assumption) | (simp (disch := omega) only [pk_un]; (with_reducible first | assumption | exact g20 (by assumption) (by assumption) | exact sl60 (by assumption) | exact pl60 (by assumption) | exact cg60 (by assumption) | exact sea4 (by assumption) | exact in3 (by assumption) | exact dm80 (by assumption) (by assumption) | exact s4 (by assumption))) | (unfold vp_in; decide)) dX4_bring_42 (fun H locs hP hD hS => ?_)
  refine lv_aload_n hx hb dX4_bring_43 rfl (lv_at hl 2 rfl) ?_
  refine va_get (D := D) (ci := 3) (C := RX4) (T := TX4) (N := 13) hx hb hts hi4 hown hK hP 0 wg_0 rfl 4 (by decide) wd5 (fun _ h9 => h9) rfl dX4_bring_44 ?_
  refine lv_iload_n hx hb dX4_bring_47 rfl (lv_at hl 3 rfl) ?_
  refine lv_dup2_11 hx hb dX4_bring_48 rfl rfl ?_
  refine va_iald hx hb hK hP 5 0 wg_5 rfl (by first | (with_reducible first | assumption | exact g20 (by assumption) (by assumption) | exact sl60 (by assumption) | exact pl60 (by assumption) | exact cg60 (by assumption) | exact sea4 (by assumption) | exact in3 (by assumption) | exact dm80 (by assumption) (by assumption) | exact s4 (by assumption)) | (with_reducible (repeat (refine sf_u (by omega) ?_)); assumption) | (simp (disch := omega) only [pk_un]; (with_reducible first | assumption | exact g20 (by assumption) (by assumption) | exact sl60 (by assumption) | exact pl60 (by assumption) | exact cg60 (by assumption) | exact sea4 (by assumption) | exact in3 (by assumption) | exact dm80 (by assumption) (by assumption) | exact s4 (by assumption))) | (unfold vp_in; decide)) dX4_bring_49 ?_
  refine lv_iload_n hx hb dX4_bring_50 rfl (lv_at hl 4 rfl) ?_
  refine lv_iadd hx hb dX4_bring_51 ?_
  refine my_iast hx hb hK hP hD hS 5 0 wg_5 rfl (wg_s5 _ _) (by first | (with_reducible first | assumption | exact g20 (by assumption) (by assumption) | exact sl60 (by assumption) | exact pl60 (by assumption) | exact cg60 (by assumption) | exact sea4 (by assumption) | exact in3 (by assumption) | exact dm80 (by assumption) (by assumption) | exact s4 (by assumption)) | (with_reducible (repeat (refine sf_u (by omega) ?_)); assumption) | (simp (disch := omega) only [pk_un]; (with_reducible first | assumption | exact g20 (by assumption) (by assumption) | exact sl60 (by assumption) | exact pl60 (by assumption) | exact cg60 (by assumption) | exact sea4 (by assumption) | exact in3 (by assumption) | exact dm80 (by assumption) (by assumption) | exact s4 (by assumption))) | (unfold vp_in; decide)) dX4_bring_52 (fun H locs hP hD hS => ?_)
  refine lv_aload_n hx hb dX4_bring_53 rfl (lv_at hl 2 rfl) ?_
  refine va_get (D := D) (ci := 3) (C := RX4) (T := TX4) (N := 13) hx hb hts hi4 hown hK hP 0 wg_0 rfl 10 (by decide) wd6 (fun _ h9 => h9) rfl dX4_bring_54 ?_
  refine lv_dup hx hb dX4_bring_57 rfl ?_
  refine va_getN (D := D) (ci := 0) (C := RX0) (T := TX0) (N := 7) hx hb hts hi0 hown hK hP 11 wg_11 rfl 3 (by decide) (va_Nw.use rfl (hX.1.1 ("PickSlots$Warehouse", 132, "PickSlots$Accounts", "trips") (List.mem_of_getElem? (i := 9) rfl))) (fun _ h9 => h9) rfl dX4_bring_58 ?_
  refine lv_iload_n hx hb dX4_bring_61 rfl (lv_at hl 1 rfl) ?_
  refine lv_iadd hx hb dX4_bring_62 ?_
  refine my_putN (D := D) (ci := 0) (C := RX0) (T := TX0) (N := 7) (ty := .int) hx hb hts hi0 tyX0 tyX0_ok nmX0 hown hK hP hD hS 11 wg_11 rfl 3 (by decide) (va_Nw.use rfl (hX.1.1 ("PickSlots$Warehouse", 132, "PickSlots$Accounts", "trips") (List.mem_of_getElem? (i := 9) rfl))) (fun _ h9 => h9) rfl (by decide +kernel) rfl rfl (Nat.le_of_ble_eq_true rfl) (wg_a3 _) dX4_bring_63 (fun H locs hP hD hS => ?_)
  refine lv_aload_n hx hb dX4_bring_66 rfl (lv_at hl 2 rfl) ?_
  refine va_get (D := D) (ci := 3) (C := RX4) (T := TX4) (N := 13) hx hb hts hi4 hown hK hP 0 wg_0 rfl 10 (by decide) wd6 (fun _ h9 => h9) rfl dX4_bring_67 ?_
  refine lv_dup hx hb dX4_bring_70 rfl ?_
  refine va_getN (D := D) (ci := 0) (C := RX0) (T := TX0) (N := 7) hx hb hts hi0 hown hK hP 11 wg_11 rfl 1 (by decide) (va_Nw.use rfl (hX.1.1 ("PickSlots$Warehouse", 135, "PickSlots$Accounts", "refillWalk") (List.mem_of_getElem? (i := 7) rfl))) (fun _ h9 => h9) rfl dX4_bring_71 ?_
  refine lv_iload hx hb dX4_bring_74 (lv_at hl 0 rfl) ?_
  refine lv_iadd hx hb dX4_bring_76 ?_
  refine my_putN (D := D) (ci := 0) (C := RX0) (T := TX0) (N := 7) (ty := .int) hx hb hts hi0 tyX0 tyX0_ok nmX0 hown hK hP hD hS 11 wg_11 rfl 1 (by decide) (va_Nw.use rfl (hX.1.1 ("PickSlots$Warehouse", 135, "PickSlots$Accounts", "refillWalk") (List.mem_of_getElem? (i := 7) rfl))) (fun _ h9 => h9) rfl (by decide +kernel) rfl rfl (Nat.le_of_ble_eq_true rfl) (wg_a1 _) dX4_bring_77 (fun H locs hP hD hS => ?_)
  refine lv_iload hx hb dX4_bring_80 (lv_at hl 0 rfl) ?_
  exact rw_ret (_, _) hx hb hr hP hD hS (rfl) dX4_bring_82 hlocks

def sp_X4_refillSlot (N : Nat → Int32) (G : Nat → Int32) (x1 : Int32) : Int32 × ((Nat → Int32) × (Nat → Int32)) :=
  if (sp_X4_isGood N G x1) = 0 then (((-1 : Int32), (N, G))) else (if (sp_X4_isPlaced N G x1) = 0 then (((-2 : Int32), (N, G))) else (if (1 : Int32) ≤ (sp_X4_unitsToBring N G x1) then (let k39_1 : Int32 × ((Nat → Int32) × (Nat → Int32)) := sp_X4_bring N G x1 (sp_X4_unitsToBring N G x1); let N2 : Nat → Int32 := k39_1.2.1; let G3 : Nat → Int32 := k39_1.2.2; ((sp_X4_unitsToBring N G x1), (N2, G3))) else (((-2 : Int32), (N, G)))))
set_option maxHeartbeats 4000000 in
set_option maxRecDepth 100000 in
theorem c_X4_refillSlot (l : Launch) (D : va_G) (cI cC cW : ClassId) (t : Nat → Nat) (a : Nat → Nat) (sz : Nat) (N : Nat → Int32) (G : Nat → Int32) (x1 : Int32) (hsf : sfN N) : Met l yX4_refillSlot wsX4_refillSlot ({ frames := 2, cells := 0, slots := 0, locals := 46 }) (va_Pc [.ref (a 0), .int x1] (rwP D (tyL cI cC cW) (wg cI a N G) t sz)) (va_Qi (fun (r : Int32) (u : ((Nat → Int32) × (Nat → Int32))) => (r, u) = sp_X4_refillSlot N G x1) (fun u => rwB D (va_A (wg cI a N G) sz) (wg cI a u.1 u.2)) (va_A (wg cI a N G) sz)) 0 0 (va_A (wg cI a N G) sz) := by
  refine Met.ofW (cc := cX4_refillSlot) (maxL := 3) (ret := (some .int)) (by decide) rfl ?_
  intro p e s m args below meth c s₁ B hml hv
  obtain ⟨rfl, hsz, hP, hK, hD0, hX⟩ := hv
  have hx := B.exec
  have hb := B.bytes
  have hr := B.returns
  have hts := atoms_spec (ws := wsX4_refillSlot) B.pre
  have hown : s.vm.findClass RX4 = some m.cls := findClass_of_methodNamed B.named
  have hlocks := B.notSynchronized
  subst hsz
  have hD := hD0.self (sz := s.heap.size)
  generalize hAe : va_A (wg cI a N G) s.heap.size = A at hD hX ⊢
  have hA : ∀ q : Nat, s.heap.size ≤ q → A q := fun q h => by rw [← hAe]; exact Or.inr h
  have hS : va_S A s.heap s.heap [] := va_S.rf
  have CF : CallFix p m c cX4_refillSlot 3 s [.ref (a 0), .int x1].toArray wsX4_refillSlot RX4 := ⟨hx, hb, hml, hown, hts⟩
  have hl := lv_entry ([.ref (a 0), .int x1]) (n := 3) (Nat.le_of_ble_eq_true rfl)
  rw [lg_entry_eq]
  generalize (lg_sl ([.ref (a 0), .int x1]) ++ List.replicate (3 - (lg_sl ([.ref (a 0), .int x1])).length) Slot.unset).toArray = ls at hl ⊢
  have hl : lv_has ls 3 [(0, .ref (a 0)), (1, .int x1)] := hl
  refine lv_aload_n hx hb dX4_refillSlot_0 rfl (lv_at hl 0 rfl) ?_
  refine lv_iload_n hx hb dX4_refillSlot_1 rfl (lv_at hl 1 rfl) ?_
  refine roV CF (c_X4_isGood l D cI cC cW t _ _ _ _ ) (cwV 1 hts gX4_refillSlot_X4_isGood rfl rfl rfl (by decide +kernel) ⟨Nat.le_of_ble_eq_true rfl, Nat.le_of_ble_eq_true rfl⟩) hP hK hX hS 0 3 wg_0 rfl rfl hl.1 rfl (Nat.le_of_ble_eq_true rfl) dX4_refillSlot_2 ⟨Nat.zero_le _, Nat.zero_le _⟩ ?_
  refine lv_if_ne (tgt := 10) hx hb dX4_refillSlot_5 (by decide) (fun c5 => ?_) (fun c5 => ?_)
  · refine lv_aload_n hx hb dX4_refillSlot_10 rfl (lv_at hl 0 rfl) ?_
    refine lv_iload_n hx hb dX4_refillSlot_11 rfl (lv_at hl 1 rfl) ?_
    refine roV CF (c_X4_isPlaced l D cI cC cW t _ _ _ _ (by first | (with_reducible first | assumption | exact g20 (by assumption) (by assumption) | exact sl60 (by assumption) | exact pl60 (by assumption) | exact cg60 (by assumption) | exact sea4 (by assumption) | exact in3 (by assumption) | exact dm80 (by assumption) (by assumption) | exact s4 (by assumption)) | (with_reducible (repeat (refine sf_u (by omega) ?_)); assumption) | (simp (disch := omega) only [pk_un]; (with_reducible first | assumption | exact g20 (by assumption) (by assumption) | exact sl60 (by assumption) | exact pl60 (by assumption) | exact cg60 (by assumption) | exact sea4 (by assumption) | exact in3 (by assumption) | exact dm80 (by assumption) (by assumption) | exact s4 (by assumption))) | (unfold vp_in; decide))) (cwV 1 hts gX4_refillSlot_X4_isPlaced rfl rfl rfl (by decide +kernel) ⟨Nat.le_of_ble_eq_true rfl, Nat.le_of_ble_eq_true rfl⟩) hP hK hX hS 0 3 wg_0 rfl rfl hl.1 rfl (Nat.le_of_ble_eq_true rfl) dX4_refillSlot_12 ⟨Nat.zero_le _, Nat.zero_le _⟩ ?_
    refine lv_if_eq (tgt := 27) hx hb dX4_refillSlot_15 (by decide) (fun c15 => ?_) (fun c15 => ?_)
    · refine lv_bipush (v := -2) hx hb dX4_refillSlot_27 (by decide) ?_
      exact rw_ret (_, _) hx hb hr hP hD hS (Eq.trans (if_neg c5) (Eq.trans (if_pos c15) (rfl))) dX4_refillSlot_29 hlocks
    · refine lv_aload_n hx hb dX4_refillSlot_18 rfl (lv_at hl 0 rfl) ?_
      refine lv_iload_n hx hb dX4_refillSlot_19 rfl (lv_at hl 1 rfl) ?_
      refine roV CF (c_X4_unitsToBring l D cI cC cW t _ _ _ _ (by first | (with_reducible first | assumption | exact g20 (by assumption) (by assumption) | exact sl60 (by assumption) | exact pl60 (by assumption) | exact cg60 (by assumption) | exact sea4 (by assumption) | exact in3 (by assumption) | exact dm80 (by assumption) (by assumption) | exact s4 (by assumption)) | (with_reducible (repeat (refine sf_u (by omega) ?_)); assumption) | (simp (disch := omega) only [pk_un]; (with_reducible first | assumption | exact g20 (by assumption) (by assumption) | exact sl60 (by assumption) | exact pl60 (by assumption) | exact cg60 (by assumption) | exact sea4 (by assumption) | exact in3 (by assumption) | exact dm80 (by assumption) (by assumption) | exact s4 (by assumption))) | (unfold vp_in; decide))) (cwV 1 hts gX4_refillSlot_X4_unitsToBring rfl rfl rfl (by decide +kernel) ⟨Nat.le_of_ble_eq_true rfl, Nat.le_of_ble_eq_true rfl⟩) hP hK hX hS 0 3 wg_0 rfl rfl hl.1 rfl (Nat.le_of_ble_eq_true rfl) dX4_refillSlot_20 ⟨Nat.zero_le _, Nat.zero_le _⟩ ?_
      refine lv_iconst (v := 1) hx hb dX4_refillSlot_23 (by decide) ?_
      refine lv_icmp_ge (tgt := 30) hx hb dX4_refillSlot_24 (by decide) (fun c24 => ?_) (fun c24 => ?_)
      · refine lv_aload_n hx hb dX4_refillSlot_30 rfl (lv_at hl 0 rfl) ?_
        refine lv_iload_n hx hb dX4_refillSlot_31 rfl (lv_at hl 1 rfl) ?_
        refine roV CF (c_X4_unitsToBring l D cI cC cW t _ _ _ _ (by first | (with_reducible first | assumption | exact g20 (by assumption) (by assumption) | exact sl60 (by assumption) | exact pl60 (by assumption) | exact cg60 (by assumption) | exact sea4 (by assumption) | exact in3 (by assumption) | exact dm80 (by assumption) (by assumption) | exact s4 (by assumption)) | (with_reducible (repeat (refine sf_u (by omega) ?_)); assumption) | (simp (disch := omega) only [pk_un]; (with_reducible first | assumption | exact g20 (by assumption) (by assumption) | exact sl60 (by assumption) | exact pl60 (by assumption) | exact cg60 (by assumption) | exact sea4 (by assumption) | exact in3 (by assumption) | exact dm80 (by assumption) (by assumption) | exact s4 (by assumption))) | (unfold vp_in; decide))) (cwV 1 hts gX4_refillSlot_X4_unitsToBring rfl rfl rfl (by decide +kernel) ⟨Nat.le_of_ble_eq_true rfl, Nat.le_of_ble_eq_true rfl⟩) hP hK hX hS 0 3 wg_0 rfl rfl hl.1 rfl (Nat.le_of_ble_eq_true rfl) dX4_refillSlot_32 ⟨Nat.zero_le _, Nat.zero_le _⟩ ?_
        refine lv_istore_n (lv' := [(2, .int _), (0, .ref _), (1, .int _)]) hx hb dX4_refillSlot_35 rfl hl (by decide) rfl (fun ls hl => ?_)
        refine lv_aload_n hx hb dX4_refillSlot_36 rfl (lv_at hl 1 rfl) ?_
        refine lv_iload_n hx hb dX4_refillSlot_37 rfl (lv_at hl 2 rfl) ?_
        refine lv_iload_n hx hb dX4_refillSlot_38 rfl (lv_at hl 0 rfl) ?_
        refine rwV CF (c_X4_bring l D cI cC cW t _ _ _ _ _ _ (by first | (with_reducible first | assumption | exact g20 (by assumption) (by assumption) | exact sl60 (by assumption) | exact pl60 (by assumption) | exact cg60 (by assumption) | exact sea4 (by assumption) | exact in3 (by assumption) | exact dm80 (by assumption) (by assumption) | exact s4 (by assumption)) | (with_reducible (repeat (refine sf_u (by omega) ?_)); assumption) | (simp (disch := omega) only [pk_un]; (with_reducible first | assumption | exact g20 (by assumption) (by assumption) | exact sl60 (by assumption) | exact pl60 (by assumption) | exact cg60 (by assumption) | exact sea4 (by assumption) | exact in3 (by assumption) | exact dm80 (by assumption) (by assumption) | exact s4 (by assumption))) | (unfold vp_in; decide))) (cwV 2 hts gX4_refillSlot_X4_bring rfl rfl rfl (by decide +kernel) ⟨Nat.le_of_ble_eq_true rfl, Nat.le_of_ble_eq_true rfl⟩) hP hD hK hX hS hA 0 3 wg_0 rfl rfl hl.1 rfl (Nat.le_of_ble_eq_true rfl) dX4_refillSlot_39 ⟨Nat.zero_le _, Nat.zero_le _⟩ (fun H locs hP hD hS => ?_)
        refine lv_pop hx hb dX4_refillSlot_42 rfl ?_
        refine lv_iload_n hx hb dX4_refillSlot_43 rfl (lv_at hl 0 rfl) ?_
        exact rw_ret (_, _) hx hb hr hP hD hS (Eq.trans (if_neg c5) (Eq.trans (if_neg c15) (Eq.trans (if_pos c24) (rfl)))) dX4_refillSlot_44 hlocks
      · refine lv_bipush (v := -2) hx hb dX4_refillSlot_27 (by decide) ?_
        exact rw_ret (_, _) hx hb hr hP hD hS (Eq.trans (if_neg c5) (Eq.trans (if_neg c15) (Eq.trans (if_neg c24) (rfl)))) dX4_refillSlot_29 hlocks
  · refine lv_iconst (v := -1) hx hb dX4_refillSlot_8 (by decide) ?_
    exact rw_ret (_, _) hx hb hr hP hD hS (Eq.trans (if_pos c5) (rfl)) dX4_refillSlot_9 hlocks

def sp_X4_pickUnits (N : Nat → Int32) (G : Nat → Int32) (x1 x2 : Int32) : Int32 × ((Nat → Int32) × (Nat → Int32)) :=
  if (sp_X4_isGood N G x1) = 0 then (((-1 : Int32), (N, G))) else (if (sp_X5_isIn x2 (1 : Int32) (200 : Int32)) = 0 then (((-1 : Int32), (N, G))) else (if (sp_X4_isPlaced N G x1) = 0 then (((-2 : Int32), (N, G))) else (if x2 ≤ (N (23 + 11 * (ix x1))) then (if x2 ≤ ((N (23 + 11 * (ix x1))) + (0 : Int32)) then (let k93_1 : Int32 × ((Nat → Int32) × (Nat → Int32)) := sp_X4_bring N G x1 (0 : Int32); let N2 : Nat → Int32 := k93_1.2.1; let G3 : Nat → Int32 := k93_1.2.2; let N4 : Nat → Int32 := upd N2 (23 + 11 * (ix x1)) ((N2 (23 + 11 * (ix x1))) - x2); let N5 : Nat → Int32 := upd N4 (26 + 11 * (ix x1)) ((N4 (26 + 11 * (ix x1))) + x2); let N6 : Nat → Int32 := upd N5 (25 + 11 * (ix x1)) ((N5 (25 + 11 * (ix x1))) + (1 : Int32)); let N7 : Nat → Int32 := upd N6 (12) ((N6 12) + (1 : Int32)); let N8 : Nat → Int32 := upd N7 (5) ((N7 5) + (sp_X2_walkTo (N7 (22 + 11 * (ix x1))))); ((k93_1.1 + (sp_X2_walkTo (N2 (22 + 11 * (ix x1))))), (N8, G3))) else (((-2 : Int32), (N, G)))) else (if (N (2 + (ix (2 : Int32)))) = (1 : Int32) then (if x2 ≤ ((N (23 + 11 * (ix x1))) + (sp_X4_unitsToBring N G x1)) then (let k93_1 : Int32 × ((Nat → Int32) × (Nat → Int32)) := sp_X4_bring N G x1 (sp_X4_unitsToBring N G x1); let N2 : Nat → Int32 := k93_1.2.1; let G3 : Nat → Int32 := k93_1.2.2; let N4 : Nat → Int32 := upd N2 (23 + 11 * (ix x1)) ((N2 (23 + 11 * (ix x1))) - x2); let N5 : Nat → Int32 := upd N4 (26 + 11 * (ix x1)) ((N4 (26 + 11 * (ix x1))) + x2); let N6 : Nat → Int32 := upd N5 (25 + 11 * (ix x1)) ((N5 (25 + 11 * (ix x1))) + (1 : Int32)); let N7 : Nat → Int32 := upd N6 (12) ((N6 12) + (1 : Int32)); let N8 : Nat → Int32 := upd N7 (5) ((N7 5) + (sp_X2_walkTo (N7 (22 + 11 * (ix x1))))); ((k93_1.1 + (sp_X2_walkTo (N2 (22 + 11 * (ix x1))))), (N8, G3))) else (((-2 : Int32), (N, G)))) else (if x2 ≤ ((N (23 + 11 * (ix x1))) + (0 : Int32)) then (let k93_1 : Int32 × ((Nat → Int32) × (Nat → Int32)) := sp_X4_bring N G x1 (0 : Int32); let N2 : Nat → Int32 := k93_1.2.1; let G3 : Nat → Int32 := k93_1.2.2; let N4 : Nat → Int32 := upd N2 (23 + 11 * (ix x1)) ((N2 (23 + 11 * (ix x1))) - x2); let N5 : Nat → Int32 := upd N4 (26 + 11 * (ix x1)) ((N4 (26 + 11 * (ix x1))) + x2); let N6 : Nat → Int32 := upd N5 (25 + 11 * (ix x1)) ((N5 (25 + 11 * (ix x1))) + (1 : Int32)); let N7 : Nat → Int32 := upd N6 (12) ((N6 12) + (1 : Int32)); let N8 : Nat → Int32 := upd N7 (5) ((N7 5) + (sp_X2_walkTo (N7 (22 + 11 * (ix x1))))); ((k93_1.1 + (sp_X2_walkTo (N2 (22 + 11 * (ix x1))))), (N8, G3))) else (((-2 : Int32), (N, G))))))))
set_option maxHeartbeats 4000000 in
set_option maxRecDepth 100000 in
theorem c_X4_pickUnits (l : Launch) (D : va_G) (cI cC cW : ClassId) (t : Nat → Nat) (a : Nat → Nat) (sz : Nat) (N : Nat → Int32) (G : Nat → Int32) (x1 x2 : Int32) (hsf : sfN N) : Met l yX4_pickUnits wsX4_pickUnits ({ frames := 2, cells := 0, slots := 0, locals := 46 }) (va_Pc [.ref (a 0), .int x1, .int x2] (rwP D (tyL cI cC cW) (wg cI a N G) t sz)) (va_Qi (fun (r : Int32) (u : ((Nat → Int32) × (Nat → Int32))) => (r, u) = sp_X4_pickUnits N G x1 x2) (fun u => rwB D (va_A (wg cI a N G) sz) (wg cI a u.1 u.2)) (va_A (wg cI a N G) sz)) 0 0 (va_A (wg cI a N G) sz) := by
  refine Met.ofW (cc := cX4_pickUnits) (maxL := 6) (ret := (some .int)) (by decide) rfl ?_
  intro p e s m args below meth c s₁ B hml hv
  obtain ⟨rfl, hsz, hP, hK, hD0, hX⟩ := hv
  have hx := B.exec
  have hb := B.bytes
  have hr := B.returns
  have hts := atoms_spec (ws := wsX4_pickUnits) B.pre
  have hown : s.vm.findClass RX4 = some m.cls := findClass_of_methodNamed B.named
  have hlocks := B.notSynchronized
  subst hsz
  have hD := hD0.self (sz := s.heap.size)
  generalize hAe : va_A (wg cI a N G) s.heap.size = A at hD hX ⊢
  have hA : ∀ q : Nat, s.heap.size ≤ q → A q := fun q h => by rw [← hAe]; exact Or.inr h
  have hS : va_S A s.heap s.heap [] := va_S.rf
  have wd14 : (Cond.initialized RX5).before [.ref (a 0), .int x1, .int x2].toArray s = true := hts _ (List.mem_of_getElem? (i := 14) rfl)
  have wd13 : (Cond.static yX5_isIn).before [.ref (a 0), .int x1, .int x2].toArray s = true := hts _ (List.mem_of_getElem? (i := 13) rfl)
  have wd1 : (Cond.fieldLink RX4 24 "PickSlots$Warehouse" "unitsInSlot" "[I").before [.ref (a 0), .int x1, .int x2].toArray s = true := hts _ (List.mem_of_getElem? (i := 1) rfl)
  have wd3 : (Cond.fieldLink RX4 21 "PickSlots$Warehouse" "slotOfGood" "[I").before [.ref (a 0), .int x1, .int x2].toArray s = true := hts _ (List.mem_of_getElem? (i := 3) rfl)
  have wd4 : (Cond.fieldLink RX4 33 "PickSlots$Warehouse" "unitsPicked" "[I").before [.ref (a 0), .int x1, .int x2].toArray s = true := hts _ (List.mem_of_getElem? (i := 4) rfl)
  have wd5 : (Cond.fieldLink RX4 30 "PickSlots$Warehouse" "weekPicks" "[I").before [.ref (a 0), .int x1, .int x2].toArray s = true := hts _ (List.mem_of_getElem? (i := 5) rfl)
  have wd6 : (Cond.fieldLink RX4 47 "PickSlots$Warehouse" "accounts" "LPickSlots$Accounts;").before [.ref (a 0), .int x1, .int x2].toArray s = true := hts _ (List.mem_of_getElem? (i := 6) rfl)
  have wd2 : (Cond.fieldLink RX4 41 "PickSlots$Warehouse" "settings" "[I").before [.ref (a 0), .int x1, .int x2].toArray s = true := hts _ (List.mem_of_getElem? (i := 2) rfl)
  have hi0 : ∀ w ∈ wsX00, w ∈ wsX4_pickUnits := fun w h => List.mem_cons_of_mem _ (List.mem_append_right _ (h))
  have hi4 : ∀ w ∈ wsX40, w ∈ wsX4_pickUnits := fun w h => List.mem_cons_of_mem _ (List.mem_append_left _ (List.mem_append_right _ (h)))
  have CF : CallFix p m c cX4_pickUnits 6 s [.ref (a 0), .int x1, .int x2].toArray wsX4_pickUnits RX4 := ⟨hx, hb, hml, hown, hts⟩
  have hl := lv_entry ([.ref (a 0), .int x1, .int x2]) (n := 6) (Nat.le_of_ble_eq_true rfl)
  rw [lg_entry_eq]
  generalize (lg_sl ([.ref (a 0), .int x1, .int x2]) ++ List.replicate (6 - (lg_sl ([.ref (a 0), .int x1, .int x2])).length) Slot.unset).toArray = ls at hl ⊢
  have hl : lv_has ls 6 [(0, .ref (a 0)), (1, .int x1), (2, .int x2)] := hl
  refine lv_aload_n hx hb dX4_pickUnits_0 rfl (lv_at hl 0 rfl) ?_
  refine lv_iload_n hx hb dX4_pickUnits_1 rfl (lv_at hl 1 rfl) ?_
  refine roV CF (c_X4_isGood l D cI cC cW t _ _ _ _ ) (cwV 1 hts gX4_pickUnits_X4_isGood rfl rfl rfl (by decide +kernel) ⟨Nat.le_of_ble_eq_true rfl, Nat.le_of_ble_eq_true rfl⟩) hP hK hX hS 0 3 wg_0 rfl rfl hl.1 rfl (Nat.le_of_ble_eq_true rfl) dX4_pickUnits_2 ⟨Nat.zero_le _, Nat.zero_le _⟩ ?_
  refine lv_if_eq (tgt := 19) hx hb dX4_pickUnits_5 (by decide) (fun c5 => ?_) (fun c5 => ?_)
  · refine lv_iconst (v := -1) hx hb dX4_pickUnits_19 (by decide) ?_
    exact rw_ret (_, _) hx hb hr hP hD hS (Eq.trans (if_pos c5) (rfl)) dX4_pickUnits_20 hlocks
  · refine lv_iload_n hx hb dX4_pickUnits_8 rfl (lv_at hl 2 rfl) ?_
    refine lv_iconst (v := 1) hx hb dX4_pickUnits_9 (by decide) ?_
    refine lv_sipush (v := 200) hx hb dX4_pickUnits_10 (by decide) ?_
    refine roSN CF (c_X5_isIn l D cI cC cW t _ _ _ ) (va_cnB 3 hts gX4_pickUnits_X5_isIn_n86 rfl rfl rfl (hX.1.2 ("PickSlots$Warehouse", 86, yX5_isIn) (List.mem_of_getElem? (i := 3) rfl)) wd14 (by decide +kernel) ⟨Nat.le_of_ble_eq_true rfl, Nat.le_of_ble_eq_true rfl⟩) wd13 vP_nil hK hX hS rfl hl.1 rfl (Nat.le_of_ble_eq_true rfl) dX4_pickUnits_13 ⟨Nat.zero_le _, Nat.zero_le _⟩ ?_
    refine lv_if_ne (tgt := 21) hx hb dX4_pickUnits_16 (by decide) (fun c16 => ?_) (fun c16 => ?_)
    · refine lv_aload_n hx hb dX4_pickUnits_21 rfl (lv_at hl 0 rfl) ?_
      refine lv_iload_n hx hb dX4_pickUnits_22 rfl (lv_at hl 1 rfl) ?_
      refine roV CF (c_X4_isPlaced l D cI cC cW t _ _ _ _ (by first | (with_reducible first | assumption | exact g20 (by assumption) (by assumption) | exact sl60 (by assumption) | exact pl60 (by assumption) | exact cg60 (by assumption) | exact sea4 (by assumption) | exact in3 (by assumption) | exact dm80 (by assumption) (by assumption) | exact s4 (by assumption)) | (with_reducible (repeat (refine sf_u (by omega) ?_)); assumption) | (simp (disch := omega) only [pk_un]; (with_reducible first | assumption | exact g20 (by assumption) (by assumption) | exact sl60 (by assumption) | exact pl60 (by assumption) | exact cg60 (by assumption) | exact sea4 (by assumption) | exact in3 (by assumption) | exact dm80 (by assumption) (by assumption) | exact s4 (by assumption))) | (unfold vp_in; decide))) (cwV 1 hts gX4_pickUnits_X4_isPlaced rfl rfl rfl (by decide +kernel) ⟨Nat.le_of_ble_eq_true rfl, Nat.le_of_ble_eq_true rfl⟩) hP hK hX hS 0 3 wg_0 rfl rfl hl.1 rfl (Nat.le_of_ble_eq_true rfl) dX4_pickUnits_23 ⟨Nat.zero_le _, Nat.zero_le _⟩ ?_
      refine lv_if_ne (tgt := 32) hx hb dX4_pickUnits_26 (by decide) (fun c26 => ?_) (fun c26 => ?_)
      · refine lv_aload_n hx hb dX4_pickUnits_32 rfl (lv_at hl 0 rfl) ?_
        refine va_get (D := D) (ci := 3) (C := RX4) (T := TX4) (N := 13) hx hb hts hi4 hown hK hP 0 wg_0 rfl 4 (by decide) wd1 (fun _ h9 => h9) rfl dX4_pickUnits_33 ?_
        refine lv_iload_n hx hb dX4_pickUnits_36 rfl (lv_at hl 1 rfl) ?_
        refine va_iald hx hb hK hP 5 0 wg_5 rfl (by first | (with_reducible first | assumption | exact g20 (by assumption) (by assumption) | exact sl60 (by assumption) | exact pl60 (by assumption) | exact cg60 (by assumption) | exact sea4 (by assumption) | exact in3 (by assumption) | exact dm80 (by assumption) (by assumption) | exact s4 (by assumption)) | (with_reducible (repeat (refine sf_u (by omega) ?_)); assumption) | (simp (disch := omega) only [pk_un]; (with_reducible first | assumption | exact g20 (by assumption) (by assumption) | exact sl60 (by assumption) | exact pl60 (by assumption) | exact cg60 (by assumption) | exact sea4 (by assumption) | exact in3 (by assumption) | exact dm80 (by assumption) (by assumption) | exact s4 (by assumption))) | (unfold vp_in; decide)) dX4_pickUnits_37 ?_
        refine lv_iload_n hx hb dX4_pickUnits_38 rfl (lv_at hl 2 rfl) ?_
        refine lv_icmp_ge (tgt := 56) hx hb dX4_pickUnits_39 (by decide) (fun c39 => ?_) (fun c39 => ?_)
        · refine lv_iconst (v := 0) hx hb dX4_pickUnits_56 (by decide) ?_
          refine lv_istore_n (lv' := [(3, .int _), (0, .ref _), (1, .int _), (2, .int _)]) hx hb dX4_pickUnits_57 rfl hl (by decide) rfl (fun ls hl => ?_)
          refine lv_iload_n hx hb dX4_pickUnits_58 rfl (lv_at hl 0 rfl) ?_
          refine lv_if_eq (tgt := 70) hx hb dX4_pickUnits_59 (by decide) (fun _ => ?_) (fun c9 => absurd (by decide) c9)
          refine lv_iconst (v := 0) hx hb dX4_pickUnits_70 (by decide) ?_
          refine lv_istore (lv' := [(4, .int _), (3, .int _), (0, .ref _), (1, .int _), (2, .int _)]) hx hb dX4_pickUnits_71 hl (by decide) rfl (fun ls hl => ?_)
          refine lv_aload_n hx hb dX4_pickUnits_73 rfl (lv_at hl 2 rfl) ?_
          refine va_get (D := D) (ci := 3) (C := RX4) (T := TX4) (N := 13) hx hb hts hi4 hown hK hP 0 wg_0 rfl 4 (by decide) wd1 (fun _ h9 => h9) rfl dX4_pickUnits_74 ?_
          refine lv_iload_n hx hb dX4_pickUnits_77 rfl (lv_at hl 3 rfl) ?_
          refine va_iald hx hb hK hP 5 0 wg_5 rfl (by first | (with_reducible first | assumption | exact g20 (by assumption) (by assumption) | exact sl60 (by assumption) | exact pl60 (by assumption) | exact cg60 (by assumption) | exact sea4 (by assumption) | exact in3 (by assumption) | exact dm80 (by assumption) (by assumption) | exact s4 (by assumption)) | (with_reducible (repeat (refine sf_u (by omega) ?_)); assumption) | (simp (disch := omega) only [pk_un]; (with_reducible first | assumption | exact g20 (by assumption) (by assumption) | exact sl60 (by assumption) | exact pl60 (by assumption) | exact cg60 (by assumption) | exact sea4 (by assumption) | exact in3 (by assumption) | exact dm80 (by assumption) (by assumption) | exact s4 (by assumption))) | (unfold vp_in; decide)) dX4_pickUnits_78 ?_
          refine lv_iload hx hb dX4_pickUnits_79 (lv_at hl 0 rfl) ?_
          refine lv_iadd hx hb dX4_pickUnits_81 ?_
          refine lv_iload_n hx hb dX4_pickUnits_82 rfl (lv_at hl 4 rfl) ?_
          refine lv_icmp_ge (tgt := 89) hx hb dX4_pickUnits_83 (by decide) (fun c83 => ?_) (fun c83 => ?_)
          · refine lv_aload_n hx hb dX4_pickUnits_89 rfl (lv_at hl 2 rfl) ?_
            refine lv_iload_n hx hb dX4_pickUnits_90 rfl (lv_at hl 3 rfl) ?_
            refine lv_iload hx hb dX4_pickUnits_91 (lv_at hl 0 rfl) ?_
            refine rwV CF (c_X4_bring l D cI cC cW t _ _ _ _ _ _ (by first | (with_reducible first | assumption | exact g20 (by assumption) (by assumption) | exact sl60 (by assumption) | exact pl60 (by assumption) | exact cg60 (by assumption) | exact sea4 (by assumption) | exact in3 (by assumption) | exact dm80 (by assumption) (by assumption) | exact s4 (by assumption)) | (with_reducible (repeat (refine sf_u (by omega) ?_)); assumption) | (simp (disch := omega) only [pk_un]; (with_reducible first | assumption | exact g20 (by assumption) (by assumption) | exact sl60 (by assumption) | exact pl60 (by assumption) | exact cg60 (by assumption) | exact sea4 (by assumption) | exact in3 (by assumption) | exact dm80 (by assumption) (by assumption) | exact s4 (by assumption))) | (unfold vp_in; decide))) (cwV 2 hts gX4_pickUnits_X4_bring rfl rfl rfl (by decide +kernel) ⟨Nat.le_of_ble_eq_true rfl, Nat.le_of_ble_eq_true rfl⟩) hP hD hK hX hS hA 0 3 wg_0 rfl rfl hl.1 rfl (Nat.le_of_ble_eq_true rfl) dX4_pickUnits_93 ⟨Nat.zero_le _, Nat.zero_le _⟩ (fun H locs hP hD hS => ?_)
            refine lv_aload_n hx hb dX4_pickUnits_96 rfl (lv_at hl 2 rfl) ?_
            refine va_get (D := D) (ci := 3) (C := RX4) (T := TX4) (N := 13) hx hb hts hi4 hown hK hP 0 wg_0 rfl 3 (by decide) wd3 (fun _ h9 => h9) rfl dX4_pickUnits_97 ?_
            refine lv_iload_n hx hb dX4_pickUnits_100 rfl (lv_at hl 3 rfl) ?_
            refine va_iald hx hb hK hP 4 0 wg_4 rfl (by first | (with_reducible first | assumption | exact g20 (by assumption) (by assumption) | exact sl60 (by assumption) | exact pl60 (by assumption) | exact cg60 (by assumption) | exact sea4 (by assumption) | exact in3 (by assumption) | exact dm80 (by assumption) (by assumption) | exact s4 (by assumption)) | (with_reducible (repeat (refine sf_u (by omega) ?_)); assumption) | (simp (disch := omega) only [pk_un]; (with_reducible first | assumption | exact g20 (by assumption) (by assumption) | exact sl60 (by assumption) | exact pl60 (by assumption) | exact cg60 (by assumption) | exact sea4 (by assumption) | exact in3 (by assumption) | exact dm80 (by assumption) (by assumption) | exact s4 (by assumption))) | (unfold vp_in; decide)) dX4_pickUnits_101 ?_
            refine roS CF (c_X2_walkTo l D cI cC cW t _ ) (va_cwS 1 hts gX4_pickUnits_X2_walkTo rfl rfl rfl (by decide +kernel) ⟨Nat.le_of_ble_eq_true rfl, Nat.le_of_ble_eq_true rfl⟩) vP_nil hK hX hS rfl hl.1 rfl (Nat.le_of_ble_eq_true rfl) dX4_pickUnits_102 ⟨Nat.zero_le _, Nat.zero_le _⟩ ?_
            refine lv_iadd hx hb dX4_pickUnits_105 ?_
            refine lv_istore (lv' := [(5, .int _), (4, .int _), (3, .int _), (0, .ref _), (1, .int _), (2, .int _)]) hx hb dX4_pickUnits_106 hl (by decide) rfl (fun ls hl => ?_)
            refine lv_aload_n hx hb dX4_pickUnits_108 rfl (lv_at hl 3 rfl) ?_
            refine va_get (D := D) (ci := 3) (C := RX4) (T := TX4) (N := 13) hx hb hts hi4 hown hK hP 0 wg_0 rfl 4 (by decide) wd1 (fun _ h9 => h9) rfl dX4_pickUnits_109 ?_
            refine lv_iload_n hx hb dX4_pickUnits_112 rfl (lv_at hl 4 rfl) ?_
            refine lv_dup2_11 hx hb dX4_pickUnits_113 rfl rfl ?_
            refine va_iald hx hb hK hP 5 0 wg_5 rfl (by first | (with_reducible first | assumption | exact g20 (by assumption) (by assumption) | exact sl60 (by assumption) | exact pl60 (by assumption) | exact cg60 (by assumption) | exact sea4 (by assumption) | exact in3 (by assumption) | exact dm80 (by assumption) (by assumption) | exact s4 (by assumption)) | (with_reducible (repeat (refine sf_u (by omega) ?_)); assumption) | (simp (disch := omega) only [pk_un]; (with_reducible first | assumption | exact g20 (by assumption) (by assumption) | exact sl60 (by assumption) | exact pl60 (by assumption) | exact cg60 (by assumption) | exact sea4 (by assumption) | exact in3 (by assumption) | exact dm80 (by assumption) (by assumption) | exact s4 (by assumption))) | (unfold vp_in; decide)) dX4_pickUnits_114 ?_
            refine lv_iload_n hx hb dX4_pickUnits_115 rfl (lv_at hl 5 rfl) ?_
            refine lv_isub hx hb dX4_pickUnits_116 ?_
            refine my_iast hx hb hK hP hD hS 5 0 wg_5 rfl (wg_s5 _ _) (by first | (with_reducible first | assumption | exact g20 (by assumption) (by assumption) | exact sl60 (by assumption) | exact pl60 (by assumption) | exact cg60 (by assumption) | exact sea4 (by assumption) | exact in3 (by assumption) | exact dm80 (by assumption) (by assumption) | exact s4 (by assumption)) | (with_reducible (repeat (refine sf_u (by omega) ?_)); assumption) | (simp (disch := omega) only [pk_un]; (with_reducible first | assumption | exact g20 (by assumption) (by assumption) | exact sl60 (by assumption) | exact pl60 (by assumption) | exact cg60 (by assumption) | exact sea4 (by assumption) | exact in3 (by assumption) | exact dm80 (by assumption) (by assumption) | exact s4 (by assumption))) | (unfold vp_in; decide)) dX4_pickUnits_117 (fun H locs hP hD hS => ?_)
            refine lv_aload_n hx hb dX4_pickUnits_118 rfl (lv_at hl 3 rfl) ?_
            refine va_get (D := D) (ci := 3) (C := RX4) (T := TX4) (N := 13) hx hb hts hi4 hown hK hP 0 wg_0 rfl 7 (by decide) wd4 (fun _ h9 => h9) rfl dX4_pickUnits_119 ?_
            refine lv_iload_n hx hb dX4_pickUnits_122 rfl (lv_at hl 4 rfl) ?_
            refine lv_dup2_11 hx hb dX4_pickUnits_123 rfl rfl ?_
            refine va_iald hx hb hK hP 8 0 wg_8 rfl (by first | (with_reducible first | assumption | exact g20 (by assumption) (by assumption) | exact sl60 (by assumption) | exact pl60 (by assumption) | exact cg60 (by assumption) | exact sea4 (by assumption) | exact in3 (by assumption) | exact dm80 (by assumption) (by assumption) | exact s4 (by assumption)) | (with_reducible (repeat (refine sf_u (by omega) ?_)); assumption) | (simp (disch := omega) only [pk_un]; (with_reducible first | assumption | exact g20 (by assumption) (by assumption) | exact sl60 (by assumption) | exact pl60 (by assumption) | exact cg60 (by assumption) | exact sea4 (by assumption) | exact in3 (by assumption) | exact dm80 (by assumption) (by assumption) | exact s4 (by assumption))) | (unfold vp_in; decide)) dX4_pickUnits_124 ?_
            refine lv_iload_n hx hb dX4_pickUnits_125 rfl (lv_at hl 5 rfl) ?_
            refine lv_iadd hx hb dX4_pickUnits_126 ?_
            refine my_iast hx hb hK hP hD hS 8 0 wg_8 rfl (wg_s8 _ _) (by first | (with_reducible first | assumption | exact g20 (by assumption) (by assumption) | exact sl60 (by assumption) | exact pl60 (by assumption) | exact cg60 (by assumption) | exact sea4 (by assumption) | exact in3 (by assumption) | exact dm80 (by assumption) (by assumption) | exact s4 (by assumption)) | (with_reducible (repeat (refine sf_u (by omega) ?_)); assumption) | (simp (disch := omega) only [pk_un]; (with_reducible first | assumption | exact g20 (by assumption) (by assumption) | exact sl60 (by assumption) | exact pl60 (by assumption) | exact cg60 (by assumption) | exact sea4 (by assumption) | exact in3 (by assumption) | exact dm80 (by assumption) (by assumption) | exact s4 (by assumption))) | (unfold vp_in; decide)) dX4_pickUnits_127 (fun H locs hP hD hS => ?_)
            refine lv_aload_n hx hb dX4_pickUnits_128 rfl (lv_at hl 3 rfl) ?_
            refine va_get (D := D) (ci := 3) (C := RX4) (T := TX4) (N := 13) hx hb hts hi4 hown hK hP 0 wg_0 rfl 6 (by decide) wd5 (fun _ h9 => h9) rfl dX4_pickUnits_129 ?_
            refine lv_iload_n hx hb dX4_pickUnits_132 rfl (lv_at hl 4 rfl) ?_
            refine lv_dup2_11 hx hb dX4_pickUnits_133 rfl rfl ?_
            refine va_iald hx hb hK hP 7 0 wg_7 rfl (by first | (with_reducible first | assumption | exact g20 (by assumption) (by assumption) | exact sl60 (by assumption) | exact pl60 (by assumption) | exact cg60 (by assumption) | exact sea4 (by assumption) | exact in3 (by assumption) | exact dm80 (by assumption) (by assumption) | exact s4 (by assumption)) | (with_reducible (repeat (refine sf_u (by omega) ?_)); assumption) | (simp (disch := omega) only [pk_un]; (with_reducible first | assumption | exact g20 (by assumption) (by assumption) | exact sl60 (by assumption) | exact pl60 (by assumption) | exact cg60 (by assumption) | exact sea4 (by assumption) | exact in3 (by assumption) | exact dm80 (by assumption) (by assumption) | exact s4 (by assumption))) | (unfold vp_in; decide)) dX4_pickUnits_134 ?_
            refine lv_iconst (v := 1) hx hb dX4_pickUnits_135 (by decide) ?_
            refine lv_iadd hx hb dX4_pickUnits_136 ?_
            refine my_iast hx hb hK hP hD hS 7 0 wg_7 rfl (wg_s7 _ _) (by first | (with_reducible first | assumption | exact g20 (by assumption) (by assumption) | exact sl60 (by assumption) | exact pl60 (by assumption) | exact cg60 (by assumption) | exact sea4 (by assumption) | exact in3 (by assumption) | exact dm80 (by assumption) (by assumption) | exact s4 (by assumption)) | (with_reducible (repeat (refine sf_u (by omega) ?_)); assumption) | (simp (disch := omega) only [pk_un]; (with_reducible first | assumption | exact g20 (by assumption) (by assumption) | exact sl60 (by assumption) | exact pl60 (by assumption) | exact cg60 (by assumption) | exact sea4 (by assumption) | exact in3 (by assumption) | exact dm80 (by assumption) (by assumption) | exact s4 (by assumption))) | (unfold vp_in; decide)) dX4_pickUnits_137 (fun H locs hP hD hS => ?_)
            refine lv_aload_n hx hb dX4_pickUnits_138 rfl (lv_at hl 3 rfl) ?_
            refine va_get (D := D) (ci := 3) (C := RX4) (T := TX4) (N := 13) hx hb hts hi4 hown hK hP 0 wg_0 rfl 10 (by decide) wd6 (fun _ h9 => h9) rfl dX4_pickUnits_139 ?_
            refine lv_dup hx hb dX4_pickUnits_142 rfl ?_
            refine va_getN (D := D) (ci := 0) (C := RX0) (T := TX0) (N := 7) hx hb hts hi0 hown hK hP 11 wg_11 rfl 6 (by decide) (va_Nw.use rfl (hX.1.1 ("PickSlots$Warehouse", 123, "PickSlots$Accounts", "picks") (List.mem_of_getElem? (i := 12) rfl))) (fun _ h9 => h9) rfl dX4_pickUnits_143 ?_
            refine lv_iconst (v := 1) hx hb dX4_pickUnits_146 (by decide) ?_
            refine lv_iadd hx hb dX4_pickUnits_147 ?_
            refine my_putN (D := D) (ci := 0) (C := RX0) (T := TX0) (N := 7) (ty := .int) hx hb hts hi0 tyX0 tyX0_ok nmX0 hown hK hP hD hS 11 wg_11 rfl 6 (by decide) (va_Nw.use rfl (hX.1.1 ("PickSlots$Warehouse", 123, "PickSlots$Accounts", "picks") (List.mem_of_getElem? (i := 12) rfl))) (fun _ h9 => h9) rfl (by decide +kernel) rfl rfl (Nat.le_of_ble_eq_true rfl) (wg_a6 _) dX4_pickUnits_148 (fun H locs hP hD hS => ?_)
            refine lv_aload_n hx hb dX4_pickUnits_151 rfl (lv_at hl 3 rfl) ?_
            refine va_get (D := D) (ci := 3) (C := RX4) (T := TX4) (N := 13) hx hb hts hi4 hown hK hP 0 wg_0 rfl 10 (by decide) wd6 (fun _ h9 => h9) rfl dX4_pickUnits_152 ?_
            refine lv_dup hx hb dX4_pickUnits_155 rfl ?_
            refine va_getN (D := D) (ci := 0) (C := RX0) (T := TX0) (N := 7) hx hb hts hi0 hown hK hP 11 wg_11 rfl 0 (by decide) (va_Nw.use rfl (hX.1.1 ("PickSlots$Warehouse", 126, "PickSlots$Accounts", "pickWalk") (List.mem_of_getElem? (i := 6) rfl))) (fun _ h9 => h9) rfl dX4_pickUnits_156 ?_
            refine lv_aload_n hx hb dX4_pickUnits_159 rfl (lv_at hl 3 rfl) ?_
            refine va_get (D := D) (ci := 3) (C := RX4) (T := TX4) (N := 13) hx hb hts hi4 hown hK hP 0 wg_0 rfl 3 (by decide) wd3 (fun _ h9 => h9) rfl dX4_pickUnits_160 ?_
            refine lv_iload_n hx hb dX4_pickUnits_163 rfl (lv_at hl 4 rfl) ?_
            refine va_iald hx hb hK hP 4 0 wg_4 rfl (by first | (with_reducible first | assumption | exact g20 (by assumption) (by assumption) | exact sl60 (by assumption) | exact pl60 (by assumption) | exact cg60 (by assumption) | exact sea4 (by assumption) | exact in3 (by assumption) | exact dm80 (by assumption) (by assumption) | exact s4 (by assumption)) | (with_reducible (repeat (refine sf_u (by omega) ?_)); assumption) | (simp (disch := omega) only [pk_un]; (with_reducible first | assumption | exact g20 (by assumption) (by assumption) | exact sl60 (by assumption) | exact pl60 (by assumption) | exact cg60 (by assumption) | exact sea4 (by assumption) | exact in3 (by assumption) | exact dm80 (by assumption) (by assumption) | exact s4 (by assumption))) | (unfold vp_in; decide)) dX4_pickUnits_164 ?_
            refine roS CF (c_X2_walkTo l D cI cC cW t _ ) (va_cwS 1 hts gX4_pickUnits_X2_walkTo rfl rfl rfl (by decide +kernel) ⟨Nat.le_of_ble_eq_true rfl, Nat.le_of_ble_eq_true rfl⟩) vP_nil hK hX hS rfl hl.1 rfl (Nat.le_of_ble_eq_true rfl) dX4_pickUnits_165 ⟨Nat.zero_le _, Nat.zero_le _⟩ ?_
            refine lv_iadd hx hb dX4_pickUnits_168 ?_
            refine my_putN (D := D) (ci := 0) (C := RX0) (T := TX0) (N := 7) (ty := .int) hx hb hts hi0 tyX0 tyX0_ok nmX0 hown hK hP hD hS 11 wg_11 rfl 0 (by decide) (va_Nw.use rfl (hX.1.1 ("PickSlots$Warehouse", 126, "PickSlots$Accounts", "pickWalk") (List.mem_of_getElem? (i := 6) rfl))) (fun _ h9 => h9) rfl (by decide +kernel) rfl rfl (Nat.le_of_ble_eq_true rfl) (wg_a0 _) dX4_pickUnits_169 (fun H locs hP hD hS => ?_)
            refine lv_iload hx hb dX4_pickUnits_172 (lv_at hl 0 rfl) ?_
            exact rw_ret (_, _) hx hb hr hP hD hS (Eq.trans (if_neg c5) (Eq.trans (if_neg c16) (Eq.trans (if_neg c26) (Eq.trans (if_pos c39) (Eq.trans (if_pos c83) (rfl)))))) dX4_pickUnits_174 hlocks
          · refine lv_bipush (v := -2) hx hb dX4_pickUnits_86 (by decide) ?_
            exact rw_ret (_, _) hx hb hr hP hD hS (Eq.trans (if_neg c5) (Eq.trans (if_neg c16) (Eq.trans (if_neg c26) (Eq.trans (if_pos c39) (Eq.trans (if_neg c83) (rfl)))))) dX4_pickUnits_88 hlocks
        · refine lv_aload_n hx hb dX4_pickUnits_42 rfl (lv_at hl 0 rfl) ?_
          refine va_get (D := D) (ci := 3) (C := RX4) (T := TX4) (N := 13) hx hb hts hi4 hown hK hP 0 wg_0 rfl 9 (by decide) wd2 (fun _ h9 => h9) rfl dX4_pickUnits_43 ?_
          refine lv_iconst (v := 2) hx hb dX4_pickUnits_46 (by decide) ?_
          refine va_iald hx hb hK hP 10 0 wg_10 rfl (by first | (with_reducible first | assumption | exact g20 (by assumption) (by assumption) | exact sl60 (by assumption) | exact pl60 (by assumption) | exact cg60 (by assumption) | exact sea4 (by assumption) | exact in3 (by assumption) | exact dm80 (by assumption) (by assumption) | exact s4 (by assumption)) | (with_reducible (repeat (refine sf_u (by omega) ?_)); assumption) | (simp (disch := omega) only [pk_un]; (with_reducible first | assumption | exact g20 (by assumption) (by assumption) | exact sl60 (by assumption) | exact pl60 (by assumption) | exact cg60 (by assumption) | exact sea4 (by assumption) | exact in3 (by assumption) | exact dm80 (by assumption) (by assumption) | exact s4 (by assumption))) | (unfold vp_in; decide)) dX4_pickUnits_47 ?_
          refine lv_top_eq (wg_rd10 (by first | (with_reducible first | assumption | exact g20 (by assumption) (by assumption) | exact sl60 (by assumption) | exact pl60 (by assumption) | exact cg60 (by assumption) | exact sea4 (by assumption) | exact in3 (by assumption) | exact dm80 (by assumption) (by assumption) | exact s4 (by assumption)) | (with_reducible (repeat (refine sf_u (by omega) ?_)); assumption) | (simp (disch := omega) only [pk_un]; (with_reducible first | assumption | exact g20 (by assumption) (by assumption) | exact sl60 (by assumption) | exact pl60 (by assumption) | exact cg60 (by assumption) | exact sea4 (by assumption) | exact in3 (by assumption) | exact dm80 (by assumption) (by assumption) | exact s4 (by assumption))) | (unfold vp_in; decide))) ?_
          refine lv_iconst (v := 1) hx hb dX4_pickUnits_48 (by decide) ?_
          refine lv_icmp_ne (tgt := 56) hx hb dX4_pickUnits_49 (by decide) (fun c49 => ?_) (fun c49 => ?_)
          · refine lv_iconst (v := 0) hx hb dX4_pickUnits_56 (by decide) ?_
            refine lv_istore_n (lv' := [(3, .int _), (0, .ref _), (1, .int _), (2, .int _)]) hx hb dX4_pickUnits_57 rfl hl (by decide) rfl (fun ls hl => ?_)
            refine lv_iload_n hx hb dX4_pickUnits_58 rfl (lv_at hl 0 rfl) ?_
            refine lv_if_eq (tgt := 70) hx hb dX4_pickUnits_59 (by decide) (fun _ => ?_) (fun c9 => absurd (by decide) c9)
            refine lv_iconst (v := 0) hx hb dX4_pickUnits_70 (by decide) ?_
            refine lv_istore (lv' := [(4, .int _), (3, .int _), (0, .ref _), (1, .int _), (2, .int _)]) hx hb dX4_pickUnits_71 hl (by decide) rfl (fun ls hl => ?_)
            refine lv_aload_n hx hb dX4_pickUnits_73 rfl (lv_at hl 2 rfl) ?_
            refine va_get (D := D) (ci := 3) (C := RX4) (T := TX4) (N := 13) hx hb hts hi4 hown hK hP 0 wg_0 rfl 4 (by decide) wd1 (fun _ h9 => h9) rfl dX4_pickUnits_74 ?_
            refine lv_iload_n hx hb dX4_pickUnits_77 rfl (lv_at hl 3 rfl) ?_
            refine va_iald hx hb hK hP 5 0 wg_5 rfl (by first | (with_reducible first | assumption | exact g20 (by assumption) (by assumption) | exact sl60 (by assumption) | exact pl60 (by assumption) | exact cg60 (by assumption) | exact sea4 (by assumption) | exact in3 (by assumption) | exact dm80 (by assumption) (by assumption) | exact s4 (by assumption)) | (with_reducible (repeat (refine sf_u (by omega) ?_)); assumption) | (simp (disch := omega) only [pk_un]; (with_reducible first | assumption | exact g20 (by assumption) (by assumption) | exact sl60 (by assumption) | exact pl60 (by assumption) | exact cg60 (by assumption) | exact sea4 (by assumption) | exact in3 (by assumption) | exact dm80 (by assumption) (by assumption) | exact s4 (by assumption))) | (unfold vp_in; decide)) dX4_pickUnits_78 ?_
            refine lv_iload hx hb dX4_pickUnits_79 (lv_at hl 0 rfl) ?_
            refine lv_iadd hx hb dX4_pickUnits_81 ?_
            refine lv_iload_n hx hb dX4_pickUnits_82 rfl (lv_at hl 4 rfl) ?_
            refine lv_icmp_ge (tgt := 89) hx hb dX4_pickUnits_83 (by decide) (fun c83 => ?_) (fun c83 => ?_)
            · refine lv_aload_n hx hb dX4_pickUnits_89 rfl (lv_at hl 2 rfl) ?_
              refine lv_iload_n hx hb dX4_pickUnits_90 rfl (lv_at hl 3 rfl) ?_
              refine lv_iload hx hb dX4_pickUnits_91 (lv_at hl 0 rfl) ?_
              refine rwV CF (c_X4_bring l D cI cC cW t _ _ _ _ _ _ (by first | (with_reducible first | assumption | exact g20 (by assumption) (by assumption) | exact sl60 (by assumption) | exact pl60 (by assumption) | exact cg60 (by assumption) | exact sea4 (by assumption) | exact in3 (by assumption) | exact dm80 (by assumption) (by assumption) | exact s4 (by assumption)) | (with_reducible (repeat (refine sf_u (by omega) ?_)); assumption) | (simp (disch := omega) only [pk_un]; (with_reducible first | assumption | exact g20 (by assumption) (by assumption) | exact sl60 (by assumption) | exact pl60 (by assumption) | exact cg60 (by assumption) | exact sea4 (by assumption) | exact in3 (by assumption) | exact dm80 (by assumption) (by assumption) | exact s4 (by assumption))) | (unfold vp_in; decide))) (cwV 2 hts gX4_pickUnits_X4_bring rfl rfl rfl (by decide +kernel) ⟨Nat.le_of_ble_eq_true rfl, Nat.le_of_ble_eq_true rfl⟩) hP hD hK hX hS hA 0 3 wg_0 rfl rfl hl.1 rfl (Nat.le_of_ble_eq_true rfl) dX4_pickUnits_93 ⟨Nat.zero_le _, Nat.zero_le _⟩ (fun H locs hP hD hS => ?_)
              refine lv_aload_n hx hb dX4_pickUnits_96 rfl (lv_at hl 2 rfl) ?_
              refine va_get (D := D) (ci := 3) (C := RX4) (T := TX4) (N := 13) hx hb hts hi4 hown hK hP 0 wg_0 rfl 3 (by decide) wd3 (fun _ h9 => h9) rfl dX4_pickUnits_97 ?_
              refine lv_iload_n hx hb dX4_pickUnits_100 rfl (lv_at hl 3 rfl) ?_
              refine va_iald hx hb hK hP 4 0 wg_4 rfl (by first | (with_reducible first | assumption | exact g20 (by assumption) (by assumption) | exact sl60 (by assumption) | exact pl60 (by assumption) | exact cg60 (by assumption) | exact sea4 (by assumption) | exact in3 (by assumption) | exact dm80 (by assumption) (by assumption) | exact s4 (by assumption)) | (with_reducible (repeat (refine sf_u (by omega) ?_)); assumption) | (simp (disch := omega) only [pk_un]; (with_reducible first | assumption | exact g20 (by assumption) (by assumption) | exact sl60 (by assumption) | exact pl60 (by assumption) | exact cg60 (by assumption) | exact sea4 (by assumption) | exact in3 (by assumption) | exact dm80 (by assumption) (by assumption) | exact s4 (by assumption))) | (unfold vp_in; decide)) dX4_pickUnits_101 ?_
              refine roS CF (c_X2_walkTo l D cI cC cW t _ ) (va_cwS 1 hts gX4_pickUnits_X2_walkTo rfl rfl rfl (by decide +kernel) ⟨Nat.le_of_ble_eq_true rfl, Nat.le_of_ble_eq_true rfl⟩) vP_nil hK hX hS rfl hl.1 rfl (Nat.le_of_ble_eq_true rfl) dX4_pickUnits_102 ⟨Nat.zero_le _, Nat.zero_le _⟩ ?_
              refine lv_iadd hx hb dX4_pickUnits_105 ?_
              refine lv_istore (lv' := [(5, .int _), (4, .int _), (3, .int _), (0, .ref _), (1, .int _), (2, .int _)]) hx hb dX4_pickUnits_106 hl (by decide) rfl (fun ls hl => ?_)
              refine lv_aload_n hx hb dX4_pickUnits_108 rfl (lv_at hl 3 rfl) ?_
              refine va_get (D := D) (ci := 3) (C := RX4) (T := TX4) (N := 13) hx hb hts hi4 hown hK hP 0 wg_0 rfl 4 (by decide) wd1 (fun _ h9 => h9) rfl dX4_pickUnits_109 ?_
              refine lv_iload_n hx hb dX4_pickUnits_112 rfl (lv_at hl 4 rfl) ?_
              refine lv_dup2_11 hx hb dX4_pickUnits_113 rfl rfl ?_
              refine va_iald hx hb hK hP 5 0 wg_5 rfl (by first | (with_reducible first | assumption | exact g20 (by assumption) (by assumption) | exact sl60 (by assumption) | exact pl60 (by assumption) | exact cg60 (by assumption) | exact sea4 (by assumption) | exact in3 (by assumption) | exact dm80 (by assumption) (by assumption) | exact s4 (by assumption)) | (with_reducible (repeat (refine sf_u (by omega) ?_)); assumption) | (simp (disch := omega) only [pk_un]; (with_reducible first | assumption | exact g20 (by assumption) (by assumption) | exact sl60 (by assumption) | exact pl60 (by assumption) | exact cg60 (by assumption) | exact sea4 (by assumption) | exact in3 (by assumption) | exact dm80 (by assumption) (by assumption) | exact s4 (by assumption))) | (unfold vp_in; decide)) dX4_pickUnits_114 ?_
              refine lv_iload_n hx hb dX4_pickUnits_115 rfl (lv_at hl 5 rfl) ?_
              refine lv_isub hx hb dX4_pickUnits_116 ?_
              refine my_iast hx hb hK hP hD hS 5 0 wg_5 rfl (wg_s5 _ _) (by first | (with_reducible first | assumption | exact g20 (by assumption) (by assumption) | exact sl60 (by assumption) | exact pl60 (by assumption) | exact cg60 (by assumption) | exact sea4 (by assumption) | exact in3 (by assumption) | exact dm80 (by assumption) (by assumption) | exact s4 (by assumption)) | (with_reducible (repeat (refine sf_u (by omega) ?_)); assumption) | (simp (disch := omega) only [pk_un]; (with_reducible first | assumption | exact g20 (by assumption) (by assumption) | exact sl60 (by assumption) | exact pl60 (by assumption) | exact cg60 (by assumption) | exact sea4 (by assumption) | exact in3 (by assumption) | exact dm80 (by assumption) (by assumption) | exact s4 (by assumption))) | (unfold vp_in; decide)) dX4_pickUnits_117 (fun H locs hP hD hS => ?_)
              refine lv_aload_n hx hb dX4_pickUnits_118 rfl (lv_at hl 3 rfl) ?_
              refine va_get (D := D) (ci := 3) (C := RX4) (T := TX4) (N := 13) hx hb hts hi4 hown hK hP 0 wg_0 rfl 7 (by decide) wd4 (fun _ h9 => h9) rfl dX4_pickUnits_119 ?_
              refine lv_iload_n hx hb dX4_pickUnits_122 rfl (lv_at hl 4 rfl) ?_
              refine lv_dup2_11 hx hb dX4_pickUnits_123 rfl rfl ?_
              refine va_iald hx hb hK hP 8 0 wg_8 rfl (by first | (with_reducible first | assumption | exact g20 (by assumption) (by assumption) | exact sl60 (by assumption) | exact pl60 (by assumption) | exact cg60 (by assumption) | exact sea4 (by assumption) | exact in3 (by assumption) | exact dm80 (by assumption) (by assumption) | exact s4 (by assumption)) | (with_reducible (repeat (refine sf_u (by omega) ?_)); assumption) | (simp (disch := omega) only [pk_un]; (with_reducible first | assumption | exact g20 (by assumption) (by assumption) | exact sl60 (by assumption) | exact pl60 (by assumption) | exact cg60 (by assumption) | exact sea4 (by assumption) | exact in3 (by assumption) | exact dm80 (by assumption) (by assumption) | exact s4 (by assumption))) | (unfold vp_in; decide)) dX4_pickUnits_124 ?_
              refine lv_iload_n hx hb dX4_pickUnits_125 rfl (lv_at hl 5 rfl) ?_
              refine lv_iadd hx hb dX4_pickUnits_126 ?_
              refine my_iast hx hb hK hP hD hS 8 0 wg_8 rfl (wg_s8 _ _) (by first | (with_reducible first | assumption | exact g20 (by assumption) (by assumption) | exact sl60 (by assumption) | exact pl60 (by assumption) | exact cg60 (by assumption) | exact sea4 (by assumption) | exact in3 (by assumption) | exact dm80 (by assumption) (by assumption) | exact s4 (by assumption)) | (with_reducible (repeat (refine sf_u (by omega) ?_)); assumption) | (simp (disch := omega) only [pk_un]; (with_reducible first | assumption | exact g20 (by assumption) (by assumption) | exact sl60 (by assumption) | exact pl60 (by assumption) | exact cg60 (by assumption) | exact sea4 (by assumption) | exact in3 (by assumption) | exact dm80 (by assumption) (by assumption) | exact s4 (by assumption))) | (unfold vp_in; decide)) dX4_pickUnits_127 (fun H locs hP hD hS => ?_)
              refine lv_aload_n hx hb dX4_pickUnits_128 rfl (lv_at hl 3 rfl) ?_
              refine va_get (D := D) (ci := 3) (C := RX4) (T := TX4) (N := 13) hx hb hts hi4 hown hK hP 0 wg_0 rfl 6 (by decide) wd5 (fun _ h9 => h9) rfl dX4_pickUnits_129 ?_
              refine lv_iload_n hx hb dX4_pickUnits_132 rfl (lv_at hl 4 rfl) ?_
              refine lv_dup2_11 hx hb dX4_pickUnits_133 rfl rfl ?_
              refine va_iald hx hb hK hP 7 0 wg_7 rfl (by first | (with_reducible first | assumption | exact g20 (by assumption) (by assumption) | exact sl60 (by assumption) | exact pl60 (by assumption) | exact cg60 (by assumption) | exact sea4 (by assumption) | exact in3 (by assumption) | exact dm80 (by assumption) (by assumption) | exact s4 (by assumption)) | (with_reducible (repeat (refine sf_u (by omega) ?_)); assumption) | (simp (disch := omega) only [pk_un]; (with_reducible first | assumption | exact g20 (by assumption) (by assumption) | exact sl60 (by assumption) | exact pl60 (by assumption) | exact cg60 (by assumption) | exact sea4 (by assumption) | exact in3 (by assumption) | exact dm80 (by assumption) (by assumption) | exact s4 (by assumption))) | (unfold vp_in; decide)) dX4_pickUnits_134 ?_
              refine lv_iconst (v := 1) hx hb dX4_pickUnits_135 (by decide) ?_
              refine lv_iadd hx hb dX4_pickUnits_136 ?_
              refine my_iast hx hb hK hP hD hS 7 0 wg_7 rfl (wg_s7 _ _) (by first | (with_reducible first | assumption | exact g20 (by assumption) (by assumption) | exact sl60 (by assumption) | exact pl60 (by assumption) | exact cg60 (by assumption) | exact sea4 (by assumption) | exact in3 (by assumption) | exact dm80 (by assumption) (by assumption) | exact s4 (by assumption)) | (with_reducible (repeat (refine sf_u (by omega) ?_)); assumption) | (simp (disch := omega) only [pk_un]; (with_reducible first | assumption | exact g20 (by assumption) (by assumption) | exact sl60 (by assumption) | exact pl60 (by assumption) | exact cg60 (by assumption) | exact sea4 (by assumption) | exact in3 (by assumption) | exact dm80 (by assumption) (by assumption) | exact s4 (by assumption))) | (unfold vp_in; decide)) dX4_pickUnits_137 (fun H locs hP hD hS => ?_)
              refine lv_aload_n hx hb dX4_pickUnits_138 rfl (lv_at hl 3 rfl) ?_
              refine va_get (D := D) (ci := 3) (C := RX4) (T := TX4) (N := 13) hx hb hts hi4 hown hK hP 0 wg_0 rfl 10 (by decide) wd6 (fun _ h9 => h9) rfl dX4_pickUnits_139 ?_
              refine lv_dup hx hb dX4_pickUnits_142 rfl ?_
              refine va_getN (D := D) (ci := 0) (C := RX0) (T := TX0) (N := 7) hx hb hts hi0 hown hK hP 11 wg_11 rfl 6 (by decide) (va_Nw.use rfl (hX.1.1 ("PickSlots$Warehouse", 123, "PickSlots$Accounts", "picks") (List.mem_of_getElem? (i := 12) rfl))) (fun _ h9 => h9) rfl dX4_pickUnits_143 ?_
              refine lv_iconst (v := 1) hx hb dX4_pickUnits_146 (by decide) ?_
              refine lv_iadd hx hb dX4_pickUnits_147 ?_
              refine my_putN (D := D) (ci := 0) (C := RX0) (T := TX0) (N := 7) (ty := .int) hx hb hts hi0 tyX0 tyX0_ok nmX0 hown hK hP hD hS 11 wg_11 rfl 6 (by decide) (va_Nw.use rfl (hX.1.1 ("PickSlots$Warehouse", 123, "PickSlots$Accounts", "picks") (List.mem_of_getElem? (i := 12) rfl))) (fun _ h9 => h9) rfl (by decide +kernel) rfl rfl (Nat.le_of_ble_eq_true rfl) (wg_a6 _) dX4_pickUnits_148 (fun H locs hP hD hS => ?_)
              refine lv_aload_n hx hb dX4_pickUnits_151 rfl (lv_at hl 3 rfl) ?_
              refine va_get (D := D) (ci := 3) (C := RX4) (T := TX4) (N := 13) hx hb hts hi4 hown hK hP 0 wg_0 rfl 10 (by decide) wd6 (fun _ h9 => h9) rfl dX4_pickUnits_152 ?_
              refine lv_dup hx hb dX4_pickUnits_155 rfl ?_
              refine va_getN (D := D) (ci := 0) (C := RX0) (T := TX0) (N := 7) hx hb hts hi0 hown hK hP 11 wg_11 rfl 0 (by decide) (va_Nw.use rfl (hX.1.1 ("PickSlots$Warehouse", 126, "PickSlots$Accounts", "pickWalk") (List.mem_of_getElem? (i := 6) rfl))) (fun _ h9 => h9) rfl dX4_pickUnits_156 ?_
              refine lv_aload_n hx hb dX4_pickUnits_159 rfl (lv_at hl 3 rfl) ?_
              refine va_get (D := D) (ci := 3) (C := RX4) (T := TX4) (N := 13) hx hb hts hi4 hown hK hP 0 wg_0 rfl 3 (by decide) wd3 (fun _ h9 => h9) rfl dX4_pickUnits_160 ?_
              refine lv_iload_n hx hb dX4_pickUnits_163 rfl (lv_at hl 4 rfl) ?_
              refine va_iald hx hb hK hP 4 0 wg_4 rfl (by first | (with_reducible first | assumption | exact g20 (by assumption) (by assumption) | exact sl60 (by assumption) | exact pl60 (by assumption) | exact cg60 (by assumption) | exact sea4 (by assumption) | exact in3 (by assumption) | exact dm80 (by assumption) (by assumption) | exact s4 (by assumption)) | (with_reducible (repeat (refine sf_u (by omega) ?_)); assumption) | (simp (disch := omega) only [pk_un]; (with_reducible first | assumption | exact g20 (by assumption) (by assumption) | exact sl60 (by assumption) | exact pl60 (by assumption) | exact cg60 (by assumption) | exact sea4 (by assumption) | exact in3 (by assumption) | exact dm80 (by assumption) (by assumption) | exact s4 (by assumption))) | (unfold vp_in; decide)) dX4_pickUnits_164 ?_
              refine roS CF (c_X2_walkTo l D cI cC cW t _ ) (va_cwS 1 hts gX4_pickUnits_X2_walkTo rfl rfl rfl (by decide +kernel) ⟨Nat.le_of_ble_eq_true rfl, Nat.le_of_ble_eq_true rfl⟩) vP_nil hK hX hS rfl hl.1 rfl (Nat.le_of_ble_eq_true rfl) dX4_pickUnits_165 ⟨Nat.zero_le _, Nat.zero_le _⟩ ?_
              refine lv_iadd hx hb dX4_pickUnits_168 ?_
              refine my_putN (D := D) (ci := 0) (C := RX0) (T := TX0) (N := 7) (ty := .int) hx hb hts hi0 tyX0 tyX0_ok nmX0 hown hK hP hD hS 11 wg_11 rfl 0 (by decide) (va_Nw.use rfl (hX.1.1 ("PickSlots$Warehouse", 126, "PickSlots$Accounts", "pickWalk") (List.mem_of_getElem? (i := 6) rfl))) (fun _ h9 => h9) rfl (by decide +kernel) rfl rfl (Nat.le_of_ble_eq_true rfl) (wg_a0 _) dX4_pickUnits_169 (fun H locs hP hD hS => ?_)
              refine lv_iload hx hb dX4_pickUnits_172 (lv_at hl 0 rfl) ?_
              exact rw_ret (_, _) hx hb hr hP hD hS (Eq.trans (if_neg c5) (Eq.trans (if_neg c16) (Eq.trans (if_neg c26) (Eq.trans (if_neg c39) (Eq.trans (if_neg c49) (Eq.trans (if_pos c83) (rfl))))))) dX4_pickUnits_174 hlocks
            · refine lv_bipush (v := -2) hx hb dX4_pickUnits_86 (by decide) ?_
              exact rw_ret (_, _) hx hb hr hP hD hS (Eq.trans (if_neg c5) (Eq.trans (if_neg c16) (Eq.trans (if_neg c26) (Eq.trans (if_neg c39) (Eq.trans (if_neg c49) (Eq.trans (if_neg c83) (rfl))))))) dX4_pickUnits_88 hlocks
          · refine lv_iconst (v := 1) hx hb dX4_pickUnits_52 (by decide) ?_
            refine lv_goto (tgt := 57) hx hb dX4_pickUnits_53 (by decide) ?_
            refine lv_istore_n (lv' := [(3, .int _), (0, .ref _), (1, .int _), (2, .int _)]) hx hb dX4_pickUnits_57 rfl hl (by decide) rfl (fun ls hl => ?_)
            refine lv_iload_n hx hb dX4_pickUnits_58 rfl (lv_at hl 0 rfl) ?_
            refine lv_if_eq (tgt := 70) hx hb dX4_pickUnits_59 (by decide) (fun c9 => absurd c9 (by decide)) (fun _ => ?_)
            refine lv_aload_n hx hb dX4_pickUnits_62 rfl (lv_at hl 1 rfl) ?_
            refine lv_iload_n hx hb dX4_pickUnits_63 rfl (lv_at hl 2 rfl) ?_
            refine roV CF (c_X4_unitsToBring l D cI cC cW t _ _ _ _ (by first | (with_reducible first | assumption | exact g20 (by assumption) (by assumption) | exact sl60 (by assumption) | exact pl60 (by assumption) | exact cg60 (by assumption) | exact sea4 (by assumption) | exact in3 (by assumption) | exact dm80 (by assumption) (by assumption) | exact s4 (by assumption)) | (with_reducible (repeat (refine sf_u (by omega) ?_)); assumption) | (simp (disch := omega) only [pk_un]; (with_reducible first | assumption | exact g20 (by assumption) (by assumption) | exact sl60 (by assumption) | exact pl60 (by assumption) | exact cg60 (by assumption) | exact sea4 (by assumption) | exact in3 (by assumption) | exact dm80 (by assumption) (by assumption) | exact s4 (by assumption))) | (unfold vp_in; decide))) (cwV 1 hts gX4_pickUnits_X4_unitsToBring rfl rfl rfl (by decide +kernel) ⟨Nat.le_of_ble_eq_true rfl, Nat.le_of_ble_eq_true rfl⟩) hP hK hX hS 0 3 wg_0 rfl rfl hl.1 rfl (Nat.le_of_ble_eq_true rfl) dX4_pickUnits_64 ⟨Nat.zero_le _, Nat.zero_le _⟩ ?_
            refine lv_goto (tgt := 71) hx hb dX4_pickUnits_67 (by decide) ?_
            refine lv_istore (lv' := [(4, .int _), (3, .int _), (0, .ref _), (1, .int _), (2, .int _)]) hx hb dX4_pickUnits_71 hl (by decide) rfl (fun ls hl => ?_)
            refine lv_aload_n hx hb dX4_pickUnits_73 rfl (lv_at hl 2 rfl) ?_
            refine va_get (D := D) (ci := 3) (C := RX4) (T := TX4) (N := 13) hx hb hts hi4 hown hK hP 0 wg_0 rfl 4 (by decide) wd1 (fun _ h9 => h9) rfl dX4_pickUnits_74 ?_
            refine lv_iload_n hx hb dX4_pickUnits_77 rfl (lv_at hl 3 rfl) ?_
            refine va_iald hx hb hK hP 5 0 wg_5 rfl (by first | (with_reducible first | assumption | exact g20 (by assumption) (by assumption) | exact sl60 (by assumption) | exact pl60 (by assumption) | exact cg60 (by assumption) | exact sea4 (by assumption) | exact in3 (by assumption) | exact dm80 (by assumption) (by assumption) | exact s4 (by assumption)) | (with_reducible (repeat (refine sf_u (by omega) ?_)); assumption) | (simp (disch := omega) only [pk_un]; (with_reducible first | assumption | exact g20 (by assumption) (by assumption) | exact sl60 (by assumption) | exact pl60 (by assumption) | exact cg60 (by assumption) | exact sea4 (by assumption) | exact in3 (by assumption) | exact dm80 (by assumption) (by assumption) | exact s4 (by assumption))) | (unfold vp_in; decide)) dX4_pickUnits_78 ?_
            refine lv_iload hx hb dX4_pickUnits_79 (lv_at hl 0 rfl) ?_
            refine lv_iadd hx hb dX4_pickUnits_81 ?_
            refine lv_iload_n hx hb dX4_pickUnits_82 rfl (lv_at hl 4 rfl) ?_
            refine lv_icmp_ge (tgt := 89) hx hb dX4_pickUnits_83 (by decide) (fun c83 => ?_) (fun c83 => ?_)
            · refine lv_aload_n hx hb dX4_pickUnits_89 rfl (lv_at hl 2 rfl) ?_
              refine lv_iload_n hx hb dX4_pickUnits_90 rfl (lv_at hl 3 rfl) ?_
              refine lv_iload hx hb dX4_pickUnits_91 (lv_at hl 0 rfl) ?_
              refine rwV CF (c_X4_bring l D cI cC cW t _ _ _ _ _ _ (by first | (with_reducible first | assumption | exact g20 (by assumption) (by assumption) | exact sl60 (by assumption) | exact pl60 (by assumption) | exact cg60 (by assumption) | exact sea4 (by assumption) | exact in3 (by assumption) | exact dm80 (by assumption) (by assumption) | exact s4 (by assumption)) | (with_reducible (repeat (refine sf_u (by omega) ?_)); assumption) | (simp (disch := omega) only [pk_un]; (with_reducible first | assumption | exact g20 (by assumption) (by assumption) | exact sl60 (by assumption) | exact pl60 (by assumption) | exact cg60 (by assumption) | exact sea4 (by assumption) | exact in3 (by assumption) | exact dm80 (by assumption) (by assumption) | exact s4 (by assumption))) | (unfold vp_in; decide))) (cwV 2 hts gX4_pickUnits_X4_bring rfl rfl rfl (by decide +kernel) ⟨Nat.le_of_ble_eq_true rfl, Nat.le_of_ble_eq_true rfl⟩) hP hD hK hX hS hA 0 3 wg_0 rfl rfl hl.1 rfl (Nat.le_of_ble_eq_true rfl) dX4_pickUnits_93 ⟨Nat.zero_le _, Nat.zero_le _⟩ (fun H locs hP hD hS => ?_)
              refine lv_aload_n hx hb dX4_pickUnits_96 rfl (lv_at hl 2 rfl) ?_
              refine va_get (D := D) (ci := 3) (C := RX4) (T := TX4) (N := 13) hx hb hts hi4 hown hK hP 0 wg_0 rfl 3 (by decide) wd3 (fun _ h9 => h9) rfl dX4_pickUnits_97 ?_
              refine lv_iload_n hx hb dX4_pickUnits_100 rfl (lv_at hl 3 rfl) ?_
              refine va_iald hx hb hK hP 4 0 wg_4 rfl (by first | (with_reducible first | assumption | exact g20 (by assumption) (by assumption) | exact sl60 (by assumption) | exact pl60 (by assumption) | exact cg60 (by assumption) | exact sea4 (by assumption) | exact in3 (by assumption) | exact dm80 (by assumption) (by assumption) | exact s4 (by assumption)) | (with_reducible (repeat (refine sf_u (by omega) ?_)); assumption) | (simp (disch := omega) only [pk_un]; (with_reducible first | assumption | exact g20 (by assumption) (by assumption) | exact sl60 (by assumption) | exact pl60 (by assumption) | exact cg60 (by assumption) | exact sea4 (by assumption) | exact in3 (by assumption) | exact dm80 (by assumption) (by assumption) | exact s4 (by assumption))) | (unfold vp_in; decide)) dX4_pickUnits_101 ?_
              refine roS CF (c_X2_walkTo l D cI cC cW t _ ) (va_cwS 1 hts gX4_pickUnits_X2_walkTo rfl rfl rfl (by decide +kernel) ⟨Nat.le_of_ble_eq_true rfl, Nat.le_of_ble_eq_true rfl⟩) vP_nil hK hX hS rfl hl.1 rfl (Nat.le_of_ble_eq_true rfl) dX4_pickUnits_102 ⟨Nat.zero_le _, Nat.zero_le _⟩ ?_
              refine lv_iadd hx hb dX4_pickUnits_105 ?_
              refine lv_istore (lv' := [(5, .int _), (4, .int _), (3, .int _), (0, .ref _), (1, .int _), (2, .int _)]) hx hb dX4_pickUnits_106 hl (by decide) rfl (fun ls hl => ?_)
              refine lv_aload_n hx hb dX4_pickUnits_108 rfl (lv_at hl 3 rfl) ?_
              refine va_get (D := D) (ci := 3) (C := RX4) (T := TX4) (N := 13) hx hb hts hi4 hown hK hP 0 wg_0 rfl 4 (by decide) wd1 (fun _ h9 => h9) rfl dX4_pickUnits_109 ?_
              refine lv_iload_n hx hb dX4_pickUnits_112 rfl (lv_at hl 4 rfl) ?_
              refine lv_dup2_11 hx hb dX4_pickUnits_113 rfl rfl ?_
              refine va_iald hx hb hK hP 5 0 wg_5 rfl (by first | (with_reducible first | assumption | exact g20 (by assumption) (by assumption) | exact sl60 (by assumption) | exact pl60 (by assumption) | exact cg60 (by assumption) | exact sea4 (by assumption) | exact in3 (by assumption) | exact dm80 (by assumption) (by assumption) | exact s4 (by assumption)) | (with_reducible (repeat (refine sf_u (by omega) ?_)); assumption) | (simp (disch := omega) only [pk_un]; (with_reducible first | assumption | exact g20 (by assumption) (by assumption) | exact sl60 (by assumption) | exact pl60 (by assumption) | exact cg60 (by assumption) | exact sea4 (by assumption) | exact in3 (by assumption) | exact dm80 (by assumption) (by assumption) | exact s4 (by assumption))) | (unfold vp_in; decide)) dX4_pickUnits_114 ?_
              refine lv_iload_n hx hb dX4_pickUnits_115 rfl (lv_at hl 5 rfl) ?_
              refine lv_isub hx hb dX4_pickUnits_116 ?_
              refine my_iast hx hb hK hP hD hS 5 0 wg_5 rfl (wg_s5 _ _) (by first | (with_reducible first | assumption | exact g20 (by assumption) (by assumption) | exact sl60 (by assumption) | exact pl60 (by assumption) | exact cg60 (by assumption) | exact sea4 (by assumption) | exact in3 (by assumption) | exact dm80 (by assumption) (by assumption) | exact s4 (by assumption)) | (with_reducible (repeat (refine sf_u (by omega) ?_)); assumption) | (simp (disch := omega) only [pk_un]; (with_reducible first | assumption | exact g20 (by assumption) (by assumption) | exact sl60 (by assumption) | exact pl60 (by assumption) | exact cg60 (by assumption) | exact sea4 (by assumption) | exact in3 (by assumption) | exact dm80 (by assumption) (by assumption) | exact s4 (by assumption))) | (unfold vp_in; decide)) dX4_pickUnits_117 (fun H locs hP hD hS => ?_)
              refine lv_aload_n hx hb dX4_pickUnits_118 rfl (lv_at hl 3 rfl) ?_
              refine va_get (D := D) (ci := 3) (C := RX4) (T := TX4) (N := 13) hx hb hts hi4 hown hK hP 0 wg_0 rfl 7 (by decide) wd4 (fun _ h9 => h9) rfl dX4_pickUnits_119 ?_
              refine lv_iload_n hx hb dX4_pickUnits_122 rfl (lv_at hl 4 rfl) ?_
              refine lv_dup2_11 hx hb dX4_pickUnits_123 rfl rfl ?_
              refine va_iald hx hb hK hP 8 0 wg_8 rfl (by first | (with_reducible first | assumption | exact g20 (by assumption) (by assumption) | exact sl60 (by assumption) | exact pl60 (by assumption) | exact cg60 (by assumption) | exact sea4 (by assumption) | exact in3 (by assumption) | exact dm80 (by assumption) (by assumption) | exact s4 (by assumption)) | (with_reducible (repeat (refine sf_u (by omega) ?_)); assumption) | (simp (disch := omega) only [pk_un]; (with_reducible first | assumption | exact g20 (by assumption) (by assumption) | exact sl60 (by assumption) | exact pl60 (by assumption) | exact cg60 (by assumption) | exact sea4 (by assumption) | exact in3 (by assumption) | exact dm80 (by assumption) (by assumption) | exact s4 (by assumption))) | (unfold vp_in; decide)) dX4_pickUnits_124 ?_
              refine lv_iload_n hx hb dX4_pickUnits_125 rfl (lv_at hl 5 rfl) ?_
              refine lv_iadd hx hb dX4_pickUnits_126 ?_
              refine my_iast hx hb hK hP hD hS 8 0 wg_8 rfl (wg_s8 _ _) (by first | (with_reducible first | assumption | exact g20 (by assumption) (by assumption) | exact sl60 (by assumption) | exact pl60 (by assumption) | exact cg60 (by assumption) | exact sea4 (by assumption) | exact in3 (by assumption) | exact dm80 (by assumption) (by assumption) | exact s4 (by assumption)) | (with_reducible (repeat (refine sf_u (by omega) ?_)); assumption) | (simp (disch := omega) only [pk_un]; (with_reducible first | assumption | exact g20 (by assumption) (by assumption) | exact sl60 (by assumption) | exact pl60 (by assumption) | exact cg60 (by assumption) | exact sea4 (by assumption) | exact in3 (by assumption) | exact dm80 (by assumption) (by assumption) | exact s4 (by assumption))) | (unfold vp_in; decide)) dX4_pickUnits_127 (fun H locs hP hD hS => ?_)
              refine lv_aload_n hx hb dX4_pickUnits_128 rfl (lv_at hl 3 rfl) ?_
              refine va_get (D := D) (ci := 3) (C := RX4) (T := TX4) (N := 13) hx hb hts hi4 hown hK hP 0 wg_0 rfl 6 (by decide) wd5 (fun _ h9 => h9) rfl dX4_pickUnits_129 ?_
              refine lv_iload_n hx hb dX4_pickUnits_132 rfl (lv_at hl 4 rfl) ?_
              refine lv_dup2_11 hx hb dX4_pickUnits_133 rfl rfl ?_
              refine va_iald hx hb hK hP 7 0 wg_7 rfl (by first | (with_reducible first | assumption | exact g20 (by assumption) (by assumption) | exact sl60 (by assumption) | exact pl60 (by assumption) | exact cg60 (by assumption) | exact sea4 (by assumption) | exact in3 (by assumption) | exact dm80 (by assumption) (by assumption) | exact s4 (by assumption)) | (with_reducible (repeat (refine sf_u (by omega) ?_)); assumption) | (simp (disch := omega) only [pk_un]; (with_reducible first | assumption | exact g20 (by assumption) (by assumption) | exact sl60 (by assumption) | exact pl60 (by assumption) | exact cg60 (by assumption) | exact sea4 (by assumption) | exact in3 (by assumption) | exact dm80 (by assumption) (by assumption) | exact s4 (by assumption))) | (unfold vp_in; decide)) dX4_pickUnits_134 ?_
              refine lv_iconst (v := 1) hx hb dX4_pickUnits_135 (by decide) ?_
              refine lv_iadd hx hb dX4_pickUnits_136 ?_
              refine my_iast hx hb hK hP hD hS 7 0 wg_7 rfl (wg_s7 _ _) (by first | (with_reducible first | assumption | exact g20 (by assumption) (by assumption) | exact sl60 (by assumption) | exact pl60 (by assumption) | exact cg60 (by assumption) | exact sea4 (by assumption) | exact in3 (by assumption) | exact dm80 (by assumption) (by assumption) | exact s4 (by assumption)) | (with_reducible (repeat (refine sf_u (by omega) ?_)); assumption) | (simp (disch := omega) only [pk_un]; (with_reducible first | assumption | exact g20 (by assumption) (by assumption) | exact sl60 (by assumption) | exact pl60 (by assumption) | exact cg60 (by assumption) | exact sea4 (by assumption) | exact in3 (by assumption) | exact dm80 (by assumption) (by assumption) | exact s4 (by assumption))) | (unfold vp_in; decide)) dX4_pickUnits_137 (fun H locs hP hD hS => ?_)
              refine lv_aload_n hx hb dX4_pickUnits_138 rfl (lv_at hl 3 rfl) ?_
              refine va_get (D := D) (ci := 3) (C := RX4) (T := TX4) (N := 13) hx hb hts hi4 hown hK hP 0 wg_0 rfl 10 (by decide) wd6 (fun _ h9 => h9) rfl dX4_pickUnits_139 ?_
              refine lv_dup hx hb dX4_pickUnits_142 rfl ?_
              refine va_getN (D := D) (ci := 0) (C := RX0) (T := TX0) (N := 7) hx hb hts hi0 hown hK hP 11 wg_11 rfl 6 (by decide) (va_Nw.use rfl (hX.1.1 ("PickSlots$Warehouse", 123, "PickSlots$Accounts", "picks") (List.mem_of_getElem? (i := 12) rfl))) (fun _ h9 => h9) rfl dX4_pickUnits_143 ?_
              refine lv_iconst (v := 1) hx hb dX4_pickUnits_146 (by decide) ?_
              refine lv_iadd hx hb dX4_pickUnits_147 ?_
              refine my_putN (D := D) (ci := 0) (C := RX0) (T := TX0) (N := 7) (ty := .int) hx hb hts hi0 tyX0 tyX0_ok nmX0 hown hK hP hD hS 11 wg_11 rfl 6 (by decide) (va_Nw.use rfl (hX.1.1 ("PickSlots$Warehouse", 123, "PickSlots$Accounts", "picks") (List.mem_of_getElem? (i := 12) rfl))) (fun _ h9 => h9) rfl (by decide +kernel) rfl rfl (Nat.le_of_ble_eq_true rfl) (wg_a6 _) dX4_pickUnits_148 (fun H locs hP hD hS => ?_)
              refine lv_aload_n hx hb dX4_pickUnits_151 rfl (lv_at hl 3 rfl) ?_
              refine va_get (D := D) (ci := 3) (C := RX4) (T := TX4) (N := 13) hx hb hts hi4 hown hK hP 0 wg_0 rfl 10 (by decide) wd6 (fun _ h9 => h9) rfl dX4_pickUnits_152 ?_
              refine lv_dup hx hb dX4_pickUnits_155 rfl ?_
              refine va_getN (D := D) (ci := 0) (C := RX0) (T := TX0) (N := 7) hx hb hts hi0 hown hK hP 11 wg_11 rfl 0 (by decide) (va_Nw.use rfl (hX.1.1 ("PickSlots$Warehouse", 126, "PickSlots$Accounts", "pickWalk") (List.mem_of_getElem? (i := 6) rfl))) (fun _ h9 => h9) rfl dX4_pickUnits_156 ?_
              refine lv_aload_n hx hb dX4_pickUnits_159 rfl (lv_at hl 3 rfl) ?_
              refine va_get (D := D) (ci := 3) (C := RX4) (T := TX4) (N := 13) hx hb hts hi4 hown hK hP 0 wg_0 rfl 3 (by decide) wd3 (fun _ h9 => h9) rfl dX4_pickUnits_160 ?_
              refine lv_iload_n hx hb dX4_pickUnits_163 rfl (lv_at hl 4 rfl) ?_
              refine va_iald hx hb hK hP 4 0 wg_4 rfl (by first | (with_reducible first | assumption | exact g20 (by assumption) (by assumption) | exact sl60 (by assumption) | exact pl60 (by assumption) | exact cg60 (by assumption) | exact sea4 (by assumption) | exact in3 (by assumption) | exact dm80 (by assumption) (by assumption) | exact s4 (by assumption)) | (with_reducible (repeat (refine sf_u (by omega) ?_)); assumption) | (simp (disch := omega) only [pk_un]; (with_reducible first | assumption | exact g20 (by assumption) (by assumption) | exact sl60 (by assumption) | exact pl60 (by assumption) | exact cg60 (by assumption) | exact sea4 (by assumption) | exact in3 (by assumption) | exact dm80 (by assumption) (by assumption) | exact s4 (by assumption))) | (unfold vp_in; decide)) dX4_pickUnits_164 ?_
              refine roS CF (c_X2_walkTo l D cI cC cW t _ ) (va_cwS 1 hts gX4_pickUnits_X2_walkTo rfl rfl rfl (by decide +kernel) ⟨Nat.le_of_ble_eq_true rfl, Nat.le_of_ble_eq_true rfl⟩) vP_nil hK hX hS rfl hl.1 rfl (Nat.le_of_ble_eq_true rfl) dX4_pickUnits_165 ⟨Nat.zero_le _, Nat.zero_le _⟩ ?_
              refine lv_iadd hx hb dX4_pickUnits_168 ?_
              refine my_putN (D := D) (ci := 0) (C := RX0) (T := TX0) (N := 7) (ty := .int) hx hb hts hi0 tyX0 tyX0_ok nmX0 hown hK hP hD hS 11 wg_11 rfl 0 (by decide) (va_Nw.use rfl (hX.1.1 ("PickSlots$Warehouse", 126, "PickSlots$Accounts", "pickWalk") (List.mem_of_getElem? (i := 6) rfl))) (fun _ h9 => h9) rfl (by decide +kernel) rfl rfl (Nat.le_of_ble_eq_true rfl) (wg_a0 _) dX4_pickUnits_169 (fun H locs hP hD hS => ?_)
              refine lv_iload hx hb dX4_pickUnits_172 (lv_at hl 0 rfl) ?_
              exact rw_ret (_, _) hx hb hr hP hD hS (Eq.trans (if_neg c5) (Eq.trans (if_neg c16) (Eq.trans (if_neg c26) (Eq.trans (if_neg c39) (Eq.trans (if_pos c49) (Eq.trans (if_pos c83) (rfl))))))) dX4_pickUnits_174 hlocks
            · refine lv_bipush (v := -2) hx hb dX4_pickUnits_86 (by decide) ?_
              exact rw_ret (_, _) hx hb hr hP hD hS (Eq.trans (if_neg c5) (Eq.trans (if_neg c16) (Eq.trans (if_neg c26) (Eq.trans (if_neg c39) (Eq.trans (if_pos c49) (Eq.trans (if_neg c83) (rfl))))))) dX4_pickUnits_88 hlocks
      · refine lv_bipush (v := -2) hx hb dX4_pickUnits_29 (by decide) ?_
        exact rw_ret (_, _) hx hb hr hP hD hS (Eq.trans (if_neg c5) (Eq.trans (if_neg c16) (Eq.trans (if_pos c26) (rfl)))) dX4_pickUnits_31 hlocks
    · refine lv_iconst (v := -1) hx hb dX4_pickUnits_19 (by decide) ?_
      exact rw_ret (_, _) hx hb hr hP hD hS (Eq.trans (if_neg c5) (Eq.trans (if_pos c16) (rfl))) dX4_pickUnits_20 hlocks

def sp_X4_changeSetting (N : Nat → Int32) (G : Nat → Int32) (x1 x2 : Int32) : Int32 × ((Nat → Int32) × (Nat → Int32)) :=
  if (sp_X5_isIn x1 (0 : Int32) (2 : Int32)) = 0 then (((-1 : Int32), (N, G))) else (if (sp_X5_isIn x2 (lstS (ix x1)) (grtS (ix x1))) = 0 then (((-1 : Int32), (N, G))) else (let N1 : Nat → Int32 := upd N (2 + (ix x1)) x2; ((N (2 + (ix x1))), (N1, G))))
set_option maxHeartbeats 4000000 in
set_option maxRecDepth 100000 in
theorem c_X4_changeSetting (l : Launch) (D : va_G) (cI cC cW : ClassId) (t : Nat → Nat) (a : Nat → Nat) (sz : Nat) (N : Nat → Int32) (G : Nat → Int32) (x1 x2 : Int32)  : Met l yX4_changeSetting wsX4_changeSetting ({ frames := 1, cells := 0, slots := 0, locals := 22 }) (va_Pc [.ref (a 0), .int x1, .int x2] (rwP D (tyL cI cC cW) (wg cI a N G) t sz)) (va_Qi (fun (r : Int32) (u : ((Nat → Int32) × (Nat → Int32))) => (r, u) = sp_X4_changeSetting N G x1 x2) (fun u => rwB D (va_A (wg cI a N G) sz) (wg cI a u.1 u.2)) (va_A (wg cI a N G) sz)) 0 0 (va_A (wg cI a N G) sz) := by
  refine Met.ofW (cc := cX4_changeSetting) (maxL := 4) (ret := (some .int)) (by decide) rfl ?_
  intro p e s m args below meth c s₁ B hml hv
  obtain ⟨rfl, hsz, hP, hK, hD0, hX⟩ := hv
  have hx := B.exec
  have hb := B.bytes
  have hr := B.returns
  have hts := atoms_spec (ws := wsX4_changeSetting) B.pre
  have hown : s.vm.findClass RX4 = some m.cls := findClass_of_methodNamed B.named
  have hlocks := B.notSynchronized
  subst hsz
  have hD := hD0.self (sz := s.heap.size)
  generalize hAe : va_A (wg cI a N G) s.heap.size = A at hD hX ⊢
  have hA : ∀ q : Nat, s.heap.size ≤ q → A q := fun q h => by rw [← hAe]; exact Or.inr h
  have hS : va_S A s.heap s.heap [] := va_S.rf
  have wd5 : (Cond.initialized RX5).before [.ref (a 0), .int x1, .int x2].toArray s = true := hts _ (List.mem_of_getElem? (i := 5) rfl)
  have wd4 : (Cond.static yX5_isIn).before [.ref (a 0), .int x1, .int x2].toArray s = true := hts _ (List.mem_of_getElem? (i := 4) rfl)
  have wd1 : (Cond.fieldLink RX4 199 "PickSlots$Warehouse" "LEAST_SETTINGS" "[I").before [.ref (a 0), .int x1, .int x2].toArray s = true := hts _ (List.mem_of_getElem? (i := 1) rfl)
  have wd2 : (Cond.fieldLink RX4 202 "PickSlots$Warehouse" "GREATEST_SETTINGS" "[I").before [.ref (a 0), .int x1, .int x2].toArray s = true := hts _ (List.mem_of_getElem? (i := 2) rfl)
  have wd3 : (Cond.fieldLink RX4 41 "PickSlots$Warehouse" "settings" "[I").before [.ref (a 0), .int x1, .int x2].toArray s = true := hts _ (List.mem_of_getElem? (i := 3) rfl)
  have hi4 : ∀ w ∈ wsX40, w ∈ wsX4_changeSetting := fun w h => List.mem_cons_of_mem _ (List.mem_append_right _ (h))
  have CF : CallFix p m c cX4_changeSetting 4 s [.ref (a 0), .int x1, .int x2].toArray wsX4_changeSetting RX4 := ⟨hx, hb, hml, hown, hts⟩
  have hl := lv_entry ([.ref (a 0), .int x1, .int x2]) (n := 4) (Nat.le_of_ble_eq_true rfl)
  rw [lg_entry_eq]
  generalize (lg_sl ([.ref (a 0), .int x1, .int x2]) ++ List.replicate (4 - (lg_sl ([.ref (a 0), .int x1, .int x2])).length) Slot.unset).toArray = ls at hl ⊢
  have hl : lv_has ls 4 [(0, .ref (a 0)), (1, .int x1), (2, .int x2)] := hl
  refine lv_iload_n hx hb dX4_changeSetting_0 rfl (lv_at hl 1 rfl) ?_
  refine lv_iconst (v := 0) hx hb dX4_changeSetting_1 (by decide) ?_
  refine lv_iconst (v := 2) hx hb dX4_changeSetting_2 (by decide) ?_
  refine roSN CF (c_X5_isIn l D cI cC cW t _ _ _ ) (va_cnB 3 hts gX4_changeSetting_X5_isIn_n86 rfl rfl rfl (hX.1.2 ("PickSlots$Warehouse", 86, yX5_isIn) (List.mem_of_getElem? (i := 3) rfl)) wd5 (by decide +kernel) ⟨Nat.le_of_ble_eq_true rfl, Nat.le_of_ble_eq_true rfl⟩) wd4 vP_nil hK hX hS rfl hl.1 rfl (Nat.le_of_ble_eq_true rfl) dX4_changeSetting_3 ⟨Nat.zero_le _, Nat.zero_le _⟩ ?_
  refine lv_if_eq (tgt := 26) hx hb dX4_changeSetting_6 (by decide) (fun c6 => ?_) (fun c6 => ?_)
  · refine lv_iconst (v := -1) hx hb dX4_changeSetting_26 (by decide) ?_
    exact rw_ret (_, _) hx hb hr hP hD hS (Eq.trans (if_pos c6) (rfl)) dX4_changeSetting_27 hlocks
  · refine lv_iload_n hx hb dX4_changeSetting_9 rfl (lv_at hl 2 rfl) ?_
    refine va_gets hx hb hX.2.2.2.1.1 hS hown wd1 (fun _ h9 => h9) dX4_changeSetting_10 ?_
    refine lv_iload_n hx hb dX4_changeSetting_13 rfl (lv_at hl 1 rfl) ?_
    refine va_ti hx hb hX.2.2.2.1.2 hS (by first | (with_reducible first | assumption | exact g20 (by assumption) (by assumption) | exact sl60 (by assumption) | exact pl60 (by assumption) | exact cg60 (by assumption) | exact sea4 (by assumption) | exact in3 (by assumption) | exact dm80 (by assumption) (by assumption) | exact s4 (by assumption)) | (with_reducible (repeat (refine sf_u (by omega) ?_)); assumption) | (simp (disch := omega) only [pk_un]; (with_reducible first | assumption | exact g20 (by assumption) (by assumption) | exact sl60 (by assumption) | exact pl60 (by assumption) | exact cg60 (by assumption) | exact sea4 (by assumption) | exact in3 (by assumption) | exact dm80 (by assumption) (by assumption) | exact s4 (by assumption))) | (unfold vp_in; decide)) rfl dX4_changeSetting_14 ?_
    refine va_gets hx hb hX.2.2.2.2.1 hS hown wd2 (fun _ h9 => h9) dX4_changeSetting_15 ?_
    refine lv_iload_n hx hb dX4_changeSetting_18 rfl (lv_at hl 1 rfl) ?_
    refine va_ti hx hb hX.2.2.2.2.2 hS (by first | (with_reducible first | assumption | exact g20 (by assumption) (by assumption) | exact sl60 (by assumption) | exact pl60 (by assumption) | exact cg60 (by assumption) | exact sea4 (by assumption) | exact in3 (by assumption) | exact dm80 (by assumption) (by assumption) | exact s4 (by assumption)) | (with_reducible (repeat (refine sf_u (by omega) ?_)); assumption) | (simp (disch := omega) only [pk_un]; (with_reducible first | assumption | exact g20 (by assumption) (by assumption) | exact sl60 (by assumption) | exact pl60 (by assumption) | exact cg60 (by assumption) | exact sea4 (by assumption) | exact in3 (by assumption) | exact dm80 (by assumption) (by assumption) | exact s4 (by assumption))) | (unfold vp_in; decide)) rfl dX4_changeSetting_19 ?_
    refine roSN CF (c_X5_isIn l D cI cC cW t _ _ _ ) (va_cnB 3 hts gX4_changeSetting_X5_isIn_n86 rfl rfl rfl (hX.1.2 ("PickSlots$Warehouse", 86, yX5_isIn) (List.mem_of_getElem? (i := 3) rfl)) wd5 (by decide +kernel) ⟨Nat.le_of_ble_eq_true rfl, Nat.le_of_ble_eq_true rfl⟩) wd4 vP_nil hK hX hS rfl hl.1 rfl (Nat.le_of_ble_eq_true rfl) dX4_changeSetting_20 ⟨Nat.zero_le _, Nat.zero_le _⟩ ?_
    refine lv_if_ne (tgt := 28) hx hb dX4_changeSetting_23 (by decide) (fun c23 => ?_) (fun c23 => ?_)
    · refine lv_aload_n hx hb dX4_changeSetting_28 rfl (lv_at hl 0 rfl) ?_
      refine va_get (D := D) (ci := 3) (C := RX4) (T := TX4) (N := 13) hx hb hts hi4 hown hK hP 0 wg_0 rfl 9 (by decide) wd3 (fun _ h9 => h9) rfl dX4_changeSetting_29 ?_
      refine lv_iload_n hx hb dX4_changeSetting_32 rfl (lv_at hl 1 rfl) ?_
      refine va_iald hx hb hK hP 10 0 wg_10 rfl (by first | (with_reducible first | assumption | exact g20 (by assumption) (by assumption) | exact sl60 (by assumption) | exact pl60 (by assumption) | exact cg60 (by assumption) | exact sea4 (by assumption) | exact in3 (by assumption) | exact dm80 (by assumption) (by assumption) | exact s4 (by assumption)) | (with_reducible (repeat (refine sf_u (by omega) ?_)); assumption) | (simp (disch := omega) only [pk_un]; (with_reducible first | assumption | exact g20 (by assumption) (by assumption) | exact sl60 (by assumption) | exact pl60 (by assumption) | exact cg60 (by assumption) | exact sea4 (by assumption) | exact in3 (by assumption) | exact dm80 (by assumption) (by assumption) | exact s4 (by assumption))) | (unfold vp_in; decide)) dX4_changeSetting_33 ?_
      refine lv_top_eq (wg_rd10 (by first | (with_reducible first | assumption | exact g20 (by assumption) (by assumption) | exact sl60 (by assumption) | exact pl60 (by assumption) | exact cg60 (by assumption) | exact sea4 (by assumption) | exact in3 (by assumption) | exact dm80 (by assumption) (by assumption) | exact s4 (by assumption)) | (with_reducible (repeat (refine sf_u (by omega) ?_)); assumption) | (simp (disch := omega) only [pk_un]; (with_reducible first | assumption | exact g20 (by assumption) (by assumption) | exact sl60 (by assumption) | exact pl60 (by assumption) | exact cg60 (by assumption) | exact sea4 (by assumption) | exact in3 (by assumption) | exact dm80 (by assumption) (by assumption) | exact s4 (by assumption))) | (unfold vp_in; decide))) ?_
      refine lv_istore_n (lv' := [(3, .int _), (0, .ref _), (1, .int _), (2, .int _)]) hx hb dX4_changeSetting_34 rfl hl (by decide) rfl (fun ls hl => ?_)
      refine lv_aload_n hx hb dX4_changeSetting_35 rfl (lv_at hl 1 rfl) ?_
      refine va_get (D := D) (ci := 3) (C := RX4) (T := TX4) (N := 13) hx hb hts hi4 hown hK hP 0 wg_0 rfl 9 (by decide) wd3 (fun _ h9 => h9) rfl dX4_changeSetting_36 ?_
      refine lv_iload_n hx hb dX4_changeSetting_39 rfl (lv_at hl 2 rfl) ?_
      refine lv_iload_n hx hb dX4_changeSetting_40 rfl (lv_at hl 3 rfl) ?_
      refine my_iast hx hb hK hP hD hS 10 0 wg_10 rfl (wg_s10 _ (ix_lt (by first | (with_reducible first | assumption | exact g20 (by assumption) (by assumption) | exact sl60 (by assumption) | exact pl60 (by assumption) | exact cg60 (by assumption) | exact sea4 (by assumption) | exact in3 (by assumption) | exact dm80 (by assumption) (by assumption) | exact s4 (by assumption)) | (with_reducible (repeat (refine sf_u (by omega) ?_)); assumption) | (simp (disch := omega) only [pk_un]; (with_reducible first | assumption | exact g20 (by assumption) (by assumption) | exact sl60 (by assumption) | exact pl60 (by assumption) | exact cg60 (by assumption) | exact sea4 (by assumption) | exact in3 (by assumption) | exact dm80 (by assumption) (by assumption) | exact s4 (by assumption))) | (unfold vp_in; decide))) _) (by first | (with_reducible first | assumption | exact g20 (by assumption) (by assumption) | exact sl60 (by assumption) | exact pl60 (by assumption) | exact cg60 (by assumption) | exact sea4 (by assumption) | exact in3 (by assumption) | exact dm80 (by assumption) (by assumption) | exact s4 (by assumption)) | (with_reducible (repeat (refine sf_u (by omega) ?_)); assumption) | (simp (disch := omega) only [pk_un]; (with_reducible first | assumption | exact g20 (by assumption) (by assumption) | exact sl60 (by assumption) | exact pl60 (by assumption) | exact cg60 (by assumption) | exact sea4 (by assumption) | exact in3 (by assumption) | exact dm80 (by assumption) (by assumption) | exact s4 (by assumption))) | (unfold vp_in; decide)) dX4_changeSetting_41 (fun H locs hP hD hS => ?_)
      refine lv_iload_n hx hb dX4_changeSetting_42 rfl (lv_at hl 0 rfl) ?_
      exact rw_ret (_, _) hx hb hr hP hD hS (Eq.trans (if_neg c6) (Eq.trans (if_neg c23) (rfl))) dX4_changeSetting_43 hlocks
    · refine lv_iconst (v := -1) hx hb dX4_changeSetting_26 (by decide) ?_
      exact rw_ret (_, _) hx hb hr hP hD hS (Eq.trans (if_neg c6) (Eq.trans (if_pos c23) (rfl))) dX4_changeSetting_27 hlocks

def sp_X4_goTo (N : Nat → Int32) (G : Nat → Int32) (x1 x2 : Int32) : Int32 × ((Nat → Int32) × (Nat → Int32)) :=
  let N1 : Nat → Int32 := upd N (11) ((N 11) + (1 : Int32)); let N2 : Nat → Int32 := upd N1 (7) ((N1 7) + (sp_X4_walkOfGoing N1 G x1 x2)); let N3 : Nat → Int32 := upd N2 (9) ((N2 9) + (sp_X4_savedByGoing N G x1 x2)); let G4 : Nat → Int32 := upd G ((ix (N3 (22 + 11 * (ix x1))))) (-1 : Int32); if (sp_X4_isGood N3 G4 (G ((ix x2)))) = 0 then (let k95_5 : ((Nat → Int32) × (Nat → Int32)) := sp_X4_standIn N3 G4 x1 x2; let N6 : Nat → Int32 := k95_5.1; let G7 : Nat → Int32 := k95_5.2; ((sp_X4_savedByGoing N G x1 x2), (N6, G7))) else (let k89_5 : ((Nat → Int32) × (Nat → Int32)) := sp_X4_standIn N3 G4 (G ((ix x2))) (N3 (22 + 11 * (ix x1))); let N6 : Nat → Int32 := k89_5.1; let G7 : Nat → Int32 := k89_5.2; let k95_8 : ((Nat → Int32) × (Nat → Int32)) := sp_X4_standIn N6 G7 x1 x2; let N9 : Nat → Int32 := k95_8.1; let G10 : Nat → Int32 := k95_8.2; ((sp_X4_savedByGoing N G x1 x2), (N9, G10)))
set_option maxHeartbeats 4000000 in
set_option maxRecDepth 100000 in
theorem c_X4_goTo (l : Launch) (D : va_G) (cI cC cW : ClassId) (t : Nat → Nat) (a : Nat → Nat) (sz : Nat) (N : Nat → Int32) (G : Nat → Int32) (x1 x2 : Int32) (hsf : sfN N) (h1 : vp_in x1 20) (h2 : vp_in x2 60) (h3 : vp_in (N (22 + 11 * ix x1)) 60) : Met l yX4_goTo wsX4_goTo ({ frames := 3, cells := 0, slots := 0, locals := 60 }) (va_Pc [.ref (a 0), .int x1, .int x2] (rwP D (tyL cI cC cW) (wg cI a N G) t sz)) (va_Qi (fun (r : Int32) (u : ((Nat → Int32) × (Nat → Int32))) => (r, u) = sp_X4_goTo N G x1 x2) (fun u => rwB D (va_A (wg cI a N G) sz) (wg cI a u.1 u.2)) (va_A (wg cI a N G) sz)) 0 0 (va_A (wg cI a N G) sz) := by
  refine Met.ofW (cc := cX4_goTo) (maxL := 6) (ret := (some .int)) (by decide) rfl ?_
  intro p e s m args below meth c s₁ B hml hv
  obtain ⟨rfl, hsz, hP, hK, hD0, hX⟩ := hv
  have hx := B.exec
  have hb := B.bytes
  have hr := B.returns
  have hts := atoms_spec (ws := wsX4_goTo) B.pre
  have hown : s.vm.findClass RX4 = some m.cls := findClass_of_methodNamed B.named
  have hlocks := B.notSynchronized
  subst hsz
  have hD := hD0.self (sz := s.heap.size)
  generalize hAe : va_A (wg cI a N G) s.heap.size = A at hD hX ⊢
  have hA : ∀ q : Nat, s.heap.size ≤ q → A q := fun q h => by rw [← hAe]; exact Or.inr h
  have hS : va_S A s.heap s.heap [] := va_S.rf
  have wd1 : (Cond.fieldLink RX4 47 "PickSlots$Warehouse" "accounts" "LPickSlots$Accounts;").before [.ref (a 0), .int x1, .int x2].toArray s = true := hts _ (List.mem_of_getElem? (i := 1) rfl)
  have wd2 : (Cond.fieldLink RX4 21 "PickSlots$Warehouse" "slotOfGood" "[I").before [.ref (a 0), .int x1, .int x2].toArray s = true := hts _ (List.mem_of_getElem? (i := 2) rfl)
  have wd3 : (Cond.fieldLink RX4 38 "PickSlots$Warehouse" "goodInSlot" "[I").before [.ref (a 0), .int x1, .int x2].toArray s = true := hts _ (List.mem_of_getElem? (i := 3) rfl)
  have hi0 : ∀ w ∈ wsX00, w ∈ wsX4_goTo := fun w h => List.mem_cons_of_mem _ (List.mem_append_right _ (h))
  have hi4 : ∀ w ∈ wsX40, w ∈ wsX4_goTo := fun w h => List.mem_cons_of_mem _ (List.mem_append_left _ (List.mem_append_right _ (h)))
  have CF : CallFix p m c cX4_goTo 6 s [.ref (a 0), .int x1, .int x2].toArray wsX4_goTo RX4 := ⟨hx, hb, hml, hown, hts⟩
  have hl := lv_entry ([.ref (a 0), .int x1, .int x2]) (n := 6) (Nat.le_of_ble_eq_true rfl)
  rw [lg_entry_eq]
  generalize (lg_sl ([.ref (a 0), .int x1, .int x2]) ++ List.replicate (6 - (lg_sl ([.ref (a 0), .int x1, .int x2])).length) Slot.unset).toArray = ls at hl ⊢
  have hl : lv_has ls 6 [(0, .ref (a 0)), (1, .int x1), (2, .int x2)] := hl
  refine lv_aload_n hx hb dX4_goTo_0 rfl (lv_at hl 0 rfl) ?_
  refine lv_iload_n hx hb dX4_goTo_1 rfl (lv_at hl 1 rfl) ?_
  refine lv_iload_n hx hb dX4_goTo_2 rfl (lv_at hl 2 rfl) ?_
  refine roV CF (c_X4_savedByGoing l D cI cC cW t _ _ _ _ _ (by first | (with_reducible first | assumption | exact g20 (by assumption) (by assumption) | exact sl60 (by assumption) | exact pl60 (by assumption) | exact cg60 (by assumption) | exact sea4 (by assumption) | exact in3 (by assumption) | exact dm80 (by assumption) (by assumption) | exact s4 (by assumption)) | (with_reducible (repeat (refine sf_u (by omega) ?_)); assumption) | (simp (disch := omega) only [pk_un]; (with_reducible first | assumption | exact g20 (by assumption) (by assumption) | exact sl60 (by assumption) | exact pl60 (by assumption) | exact cg60 (by assumption) | exact sea4 (by assumption) | exact in3 (by assumption) | exact dm80 (by assumption) (by assumption) | exact s4 (by assumption))) | (unfold vp_in; decide)) (by first | (with_reducible first | assumption | exact g20 (by assumption) (by assumption) | exact sl60 (by assumption) | exact pl60 (by assumption) | exact cg60 (by assumption) | exact sea4 (by assumption) | exact in3 (by assumption) | exact dm80 (by assumption) (by assumption) | exact s4 (by assumption)) | (with_reducible (repeat (refine sf_u (by omega) ?_)); assumption) | (simp (disch := omega) only [pk_un]; (with_reducible first | assumption | exact g20 (by assumption) (by assumption) | exact sl60 (by assumption) | exact pl60 (by assumption) | exact cg60 (by assumption) | exact sea4 (by assumption) | exact in3 (by assumption) | exact dm80 (by assumption) (by assumption) | exact s4 (by assumption))) | (unfold vp_in; decide)) (by first | (with_reducible first | assumption | exact g20 (by assumption) (by assumption) | exact sl60 (by assumption) | exact pl60 (by assumption) | exact cg60 (by assumption) | exact sea4 (by assumption) | exact in3 (by assumption) | exact dm80 (by assumption) (by assumption) | exact s4 (by assumption)) | (with_reducible (repeat (refine sf_u (by omega) ?_)); assumption) | (simp (disch := omega) only [pk_un]; (with_reducible first | assumption | exact g20 (by assumption) (by assumption) | exact sl60 (by assumption) | exact pl60 (by assumption) | exact cg60 (by assumption) | exact sea4 (by assumption) | exact in3 (by assumption) | exact dm80 (by assumption) (by assumption) | exact s4 (by assumption))) | (unfold vp_in; decide))) (cwV 2 hts gX4_goTo_X4_savedByGoing rfl rfl rfl (by decide +kernel) ⟨Nat.le_of_ble_eq_true rfl, Nat.le_of_ble_eq_true rfl⟩) hP hK hX hS 0 3 wg_0 rfl rfl hl.1 rfl (Nat.le_of_ble_eq_true rfl) dX4_goTo_3 ⟨Nat.zero_le _, Nat.zero_le _⟩ ?_
  refine lv_istore_n (lv' := [(3, .int _), (0, .ref _), (1, .int _), (2, .int _)]) hx hb dX4_goTo_6 rfl hl (by decide) rfl (fun ls hl => ?_)
  refine lv_aload_n hx hb dX4_goTo_7 rfl (lv_at hl 1 rfl) ?_
  refine va_get (D := D) (ci := 3) (C := RX4) (T := TX4) (N := 13) hx hb hts hi4 hown hK hP 0 wg_0 rfl 10 (by decide) wd1 (fun _ h9 => h9) rfl dX4_goTo_8 ?_
  refine lv_dup hx hb dX4_goTo_11 rfl ?_
  refine va_getN (D := D) (ci := 0) (C := RX0) (T := TX0) (N := 7) hx hb hts hi0 hown hK hP 11 wg_11 rfl 5 (by decide) (va_Nw.use rfl (hX.1.1 ("PickSlots$Warehouse", 167, "PickSlots$Accounts", "moves") (List.mem_of_getElem? (i := 11) rfl))) (fun _ h9 => h9) rfl dX4_goTo_12 ?_
  refine lv_iconst (v := 1) hx hb dX4_goTo_15 (by decide) ?_
  refine lv_iadd hx hb dX4_goTo_16 ?_
  refine my_putN (D := D) (ci := 0) (C := RX0) (T := TX0) (N := 7) (ty := .int) hx hb hts hi0 tyX0 tyX0_ok nmX0 hown hK hP hD hS 11 wg_11 rfl 5 (by decide) (va_Nw.use rfl (hX.1.1 ("PickSlots$Warehouse", 167, "PickSlots$Accounts", "moves") (List.mem_of_getElem? (i := 11) rfl))) (fun _ h9 => h9) rfl (by decide +kernel) rfl rfl (Nat.le_of_ble_eq_true rfl) (wg_a5 _) dX4_goTo_17 (fun H locs hP hD hS => ?_)
  refine lv_aload_n hx hb dX4_goTo_20 rfl (lv_at hl 1 rfl) ?_
  refine va_get (D := D) (ci := 3) (C := RX4) (T := TX4) (N := 13) hx hb hts hi4 hown hK hP 0 wg_0 rfl 10 (by decide) wd1 (fun _ h9 => h9) rfl dX4_goTo_21 ?_
  refine lv_dup hx hb dX4_goTo_24 rfl ?_
  refine va_getN (D := D) (ci := 0) (C := RX0) (T := TX0) (N := 7) hx hb hts hi0 hown hK hP 11 wg_11 rfl 2 (by decide) (va_Nw.use rfl (hX.1.1 ("PickSlots$Warehouse", 170, "PickSlots$Accounts", "moveWalk") (List.mem_of_getElem? (i := 8) rfl))) (fun _ h9 => h9) rfl dX4_goTo_25 ?_
  refine lv_aload_n hx hb dX4_goTo_28 rfl (lv_at hl 1 rfl) ?_
  refine lv_iload_n hx hb dX4_goTo_29 rfl (lv_at hl 2 rfl) ?_
  refine lv_iload_n hx hb dX4_goTo_30 rfl (lv_at hl 3 rfl) ?_
  refine roV CF (c_X4_walkOfGoing l D cI cC cW t _ _ _ _ _ (by first | (with_reducible first | assumption | exact g20 (by assumption) (by assumption) | exact sl60 (by assumption) | exact pl60 (by assumption) | exact cg60 (by assumption) | exact sea4 (by assumption) | exact in3 (by assumption) | exact dm80 (by assumption) (by assumption) | exact s4 (by assumption)) | (with_reducible (repeat (refine sf_u (by omega) ?_)); assumption) | (simp (disch := omega) only [pk_un]; (with_reducible first | assumption | exact g20 (by assumption) (by assumption) | exact sl60 (by assumption) | exact pl60 (by assumption) | exact cg60 (by assumption) | exact sea4 (by assumption) | exact in3 (by assumption) | exact dm80 (by assumption) (by assumption) | exact s4 (by assumption))) | (unfold vp_in; decide)) (by first | (with_reducible first | assumption | exact g20 (by assumption) (by assumption) | exact sl60 (by assumption) | exact pl60 (by assumption) | exact cg60 (by assumption) | exact sea4 (by assumption) | exact in3 (by assumption) | exact dm80 (by assumption) (by assumption) | exact s4 (by assumption)) | (with_reducible (repeat (refine sf_u (by omega) ?_)); assumption) | (simp (disch := omega) only [pk_un]; (with_reducible first | assumption | exact g20 (by assumption) (by assumption) | exact sl60 (by assumption) | exact pl60 (by assumption) | exact cg60 (by assumption) | exact sea4 (by assumption) | exact in3 (by assumption) | exact dm80 (by assumption) (by assumption) | exact s4 (by assumption))) | (unfold vp_in; decide)) (by first | (with_reducible first | assumption | exact g20 (by assumption) (by assumption) | exact sl60 (by assumption) | exact pl60 (by assumption) | exact cg60 (by assumption) | exact sea4 (by assumption) | exact in3 (by assumption) | exact dm80 (by assumption) (by assumption) | exact s4 (by assumption)) | (with_reducible (repeat (refine sf_u (by omega) ?_)); assumption) | (simp (disch := omega) only [pk_un]; (with_reducible first | assumption | exact g20 (by assumption) (by assumption) | exact sl60 (by assumption) | exact pl60 (by assumption) | exact cg60 (by assumption) | exact sea4 (by assumption) | exact in3 (by assumption) | exact dm80 (by assumption) (by assumption) | exact s4 (by assumption))) | (unfold vp_in; decide))) (cwV 2 hts gX4_goTo_X4_walkOfGoing rfl rfl rfl (by decide +kernel) ⟨Nat.le_of_ble_eq_true rfl, Nat.le_of_ble_eq_true rfl⟩) hP hK hX hS 0 3 wg_0 rfl rfl hl.1 rfl (Nat.le_of_ble_eq_true rfl) dX4_goTo_31 ⟨Nat.zero_le _, Nat.zero_le _⟩ ?_
  refine lv_iadd hx hb dX4_goTo_34 ?_
  refine my_putN (D := D) (ci := 0) (C := RX0) (T := TX0) (N := 7) (ty := .int) hx hb hts hi0 tyX0 tyX0_ok nmX0 hown hK hP hD hS 11 wg_11 rfl 2 (by decide) (va_Nw.use rfl (hX.1.1 ("PickSlots$Warehouse", 170, "PickSlots$Accounts", "moveWalk") (List.mem_of_getElem? (i := 8) rfl))) (fun _ h9 => h9) rfl (by decide +kernel) rfl rfl (Nat.le_of_ble_eq_true rfl) (wg_a2 _) dX4_goTo_35 (fun H locs hP hD hS => ?_)
  refine lv_aload_n hx hb dX4_goTo_38 rfl (lv_at hl 1 rfl) ?_
  refine va_get (D := D) (ci := 3) (C := RX4) (T := TX4) (N := 13) hx hb hts hi4 hown hK hP 0 wg_0 rfl 10 (by decide) wd1 (fun _ h9 => h9) rfl dX4_goTo_39 ?_
  refine lv_dup hx hb dX4_goTo_42 rfl ?_
  refine va_getN (D := D) (ci := 0) (C := RX0) (T := TX0) (N := 7) hx hb hts hi0 hown hK hP 11 wg_11 rfl 4 (by decide) (va_Nw.use rfl (hX.1.1 ("PickSlots$Warehouse", 173, "PickSlots$Accounts", "saved") (List.mem_of_getElem? (i := 10) rfl))) (fun _ h9 => h9) rfl dX4_goTo_43 ?_
  refine lv_iload_n hx hb dX4_goTo_46 rfl (lv_at hl 0 rfl) ?_
  refine lv_iadd hx hb dX4_goTo_47 ?_
  refine my_putN (D := D) (ci := 0) (C := RX0) (T := TX0) (N := 7) (ty := .int) hx hb hts hi0 tyX0 tyX0_ok nmX0 hown hK hP hD hS 11 wg_11 rfl 4 (by decide) (va_Nw.use rfl (hX.1.1 ("PickSlots$Warehouse", 173, "PickSlots$Accounts", "saved") (List.mem_of_getElem? (i := 10) rfl))) (fun _ h9 => h9) rfl (by decide +kernel) rfl rfl (Nat.le_of_ble_eq_true rfl) (wg_a4 _) dX4_goTo_48 (fun H locs hP hD hS => ?_)
  refine lv_aload_n hx hb dX4_goTo_51 rfl (lv_at hl 1 rfl) ?_
  refine va_get (D := D) (ci := 3) (C := RX4) (T := TX4) (N := 13) hx hb hts hi4 hown hK hP 0 wg_0 rfl 3 (by decide) wd2 (fun _ h9 => h9) rfl dX4_goTo_52 ?_
  refine lv_iload_n hx hb dX4_goTo_55 rfl (lv_at hl 2 rfl) ?_
  refine va_iald hx hb hK hP 4 0 wg_4 rfl (by first | (with_reducible first | assumption | exact g20 (by assumption) (by assumption) | exact sl60 (by assumption) | exact pl60 (by assumption) | exact cg60 (by assumption) | exact sea4 (by assumption) | exact in3 (by assumption) | exact dm80 (by assumption) (by assumption) | exact s4 (by assumption)) | (with_reducible (repeat (refine sf_u (by omega) ?_)); assumption) | (simp (disch := omega) only [pk_un]; (with_reducible first | assumption | exact g20 (by assumption) (by assumption) | exact sl60 (by assumption) | exact pl60 (by assumption) | exact cg60 (by assumption) | exact sea4 (by assumption) | exact in3 (by assumption) | exact dm80 (by assumption) (by assumption) | exact s4 (by assumption))) | (unfold vp_in; decide)) dX4_goTo_56 ?_
  refine lv_istore (lv' := [(4, .int _), (3, .int _), (0, .ref _), (1, .int _), (2, .int _)]) hx hb dX4_goTo_57 hl (by decide) rfl (fun ls hl => ?_)
  refine lv_aload_n hx hb dX4_goTo_59 rfl (lv_at hl 2 rfl) ?_
  refine va_get (D := D) (ci := 3) (C := RX4) (T := TX4) (N := 13) hx hb hts hi4 hown hK hP 0 wg_0 rfl 8 (by decide) wd3 (fun _ h9 => h9) rfl dX4_goTo_60 ?_
  refine lv_iload_n hx hb dX4_goTo_63 rfl (lv_at hl 4 rfl) ?_
  refine va_iald hx hb hK hP 9 0 wg_9 rfl (by first | (with_reducible first | assumption | exact g20 (by assumption) (by assumption) | exact sl60 (by assumption) | exact pl60 (by assumption) | exact cg60 (by assumption) | exact sea4 (by assumption) | exact in3 (by assumption) | exact dm80 (by assumption) (by assumption) | exact s4 (by assumption)) | (with_reducible (repeat (refine sf_u (by omega) ?_)); assumption) | (simp (disch := omega) only [pk_un]; (with_reducible first | assumption | exact g20 (by assumption) (by assumption) | exact sl60 (by assumption) | exact pl60 (by assumption) | exact cg60 (by assumption) | exact sea4 (by assumption) | exact in3 (by assumption) | exact dm80 (by assumption) (by assumption) | exact s4 (by assumption))) | (unfold vp_in; decide)) dX4_goTo_64 ?_
  refine lv_istore (lv' := [(5, .int _), (4, .int _), (3, .int _), (0, .ref _), (1, .int _), (2, .int _)]) hx hb dX4_goTo_65 hl (by decide) rfl (fun ls hl => ?_)
  refine lv_aload_n hx hb dX4_goTo_67 rfl (lv_at hl 3 rfl) ?_
  refine va_get (D := D) (ci := 3) (C := RX4) (T := TX4) (N := 13) hx hb hts hi4 hown hK hP 0 wg_0 rfl 8 (by decide) wd3 (fun _ h9 => h9) rfl dX4_goTo_68 ?_
  refine lv_iload hx hb dX4_goTo_71 (lv_at hl 1 rfl) ?_
  refine lv_iconst (v := -1) hx hb dX4_goTo_73 (by decide) ?_
  refine my_iast hx hb hK hP hD hS 9 0 wg_9 rfl (wg_s9 _ _) (by first | (with_reducible first | assumption | exact g20 (by assumption) (by assumption) | exact sl60 (by assumption) | exact pl60 (by assumption) | exact cg60 (by assumption) | exact sea4 (by assumption) | exact in3 (by assumption) | exact dm80 (by assumption) (by assumption) | exact s4 (by assumption)) | (with_reducible (repeat (refine sf_u (by omega) ?_)); assumption) | (simp (disch := omega) only [pk_un]; (with_reducible first | assumption | exact g20 (by assumption) (by assumption) | exact sl60 (by assumption) | exact pl60 (by assumption) | exact cg60 (by assumption) | exact sea4 (by assumption) | exact in3 (by assumption) | exact dm80 (by assumption) (by assumption) | exact s4 (by assumption))) | (unfold vp_in; decide)) dX4_goTo_74 (fun H locs hP hD hS => ?_)
  refine lv_aload_n hx hb dX4_goTo_75 rfl (lv_at hl 3 rfl) ?_
  refine lv_iload hx hb dX4_goTo_76 (lv_at hl 0 rfl) ?_
  refine roV CF (c_X4_isGood l D cI cC cW t _ _ _ _ ) (cwV 1 hts gX4_goTo_X4_isGood rfl rfl rfl (by decide +kernel) ⟨Nat.le_of_ble_eq_true rfl, Nat.le_of_ble_eq_true rfl⟩) hP hK hX hS 0 3 wg_0 rfl rfl hl.1 rfl (Nat.le_of_ble_eq_true rfl) dX4_goTo_78 ⟨Nat.zero_le _, Nat.zero_le _⟩ ?_
  refine lv_if_eq (tgt := 92) hx hb dX4_goTo_81 (by decide) (fun c81 => ?_) (fun c81 => ?_)
  · refine lv_aload_n hx hb dX4_goTo_92 rfl (lv_at hl 3 rfl) ?_
    refine lv_iload_n hx hb dX4_goTo_93 rfl (lv_at hl 4 rfl) ?_
    refine lv_iload_n hx hb dX4_goTo_94 rfl (lv_at hl 5 rfl) ?_
    refine rwVv CF (c_X4_standIn l D cI cC cW t _ _ _ _ _ _ (by first | (with_reducible first | assumption | exact g20 (by assumption) (by assumption) | exact sl60 (by assumption) | exact pl60 (by assumption) | exact cg60 (by assumption) | exact sea4 (by assumption) | exact in3 (by assumption) | exact dm80 (by assumption) (by assumption) | exact s4 (by assumption)) | (with_reducible (repeat (refine sf_u (by omega) ?_)); assumption) | (simp (disch := omega) only [pk_un]; (with_reducible first | assumption | exact g20 (by assumption) (by assumption) | exact sl60 (by assumption) | exact pl60 (by assumption) | exact cg60 (by assumption) | exact sea4 (by assumption) | exact in3 (by assumption) | exact dm80 (by assumption) (by assumption) | exact s4 (by assumption))) | (unfold vp_in; decide)) (by first | (with_reducible first | assumption | exact g20 (by assumption) (by assumption) | exact sl60 (by assumption) | exact pl60 (by assumption) | exact cg60 (by assumption) | exact sea4 (by assumption) | exact in3 (by assumption) | exact dm80 (by assumption) (by assumption) | exact s4 (by assumption)) | (with_reducible (repeat (refine sf_u (by omega) ?_)); assumption) | (simp (disch := omega) only [pk_un]; (with_reducible first | assumption | exact g20 (by assumption) (by assumption) | exact sl60 (by assumption) | exact pl60 (by assumption) | exact cg60 (by assumption) | exact sea4 (by assumption) | exact in3 (by assumption) | exact dm80 (by assumption) (by assumption) | exact s4 (by assumption))) | (unfold vp_in; decide))) (cwV 2 hts gX4_goTo_X4_standIn rfl rfl rfl (by decide +kernel) ⟨Nat.le_of_ble_eq_true rfl, Nat.le_of_ble_eq_true rfl⟩) hP hD hK hX hS hA 0 3 wg_0 rfl rfl hl.1 rfl (Nat.le_of_ble_eq_true rfl) dX4_goTo_95 ⟨Nat.zero_le _, Nat.zero_le _⟩ (fun H locs hP hD hS => ?_)
    refine lv_iload_n hx hb dX4_goTo_98 rfl (lv_at hl 2 rfl) ?_
    exact rw_ret (_, _) hx hb hr hP hD hS (Eq.trans (if_pos c81) (rfl)) dX4_goTo_99 hlocks
  · refine lv_aload_n hx hb dX4_goTo_84 rfl (lv_at hl 3 rfl) ?_
    refine lv_iload hx hb dX4_goTo_85 (lv_at hl 0 rfl) ?_
    refine lv_iload hx hb dX4_goTo_87 (lv_at hl 1 rfl) ?_
    refine rwVv CF (c_X4_standIn l D cI cC cW t _ _ _ _ _ _ (g20 (by with_reducible (repeat (refine sf_u (by omega) ?_)); assumption) c81) (by simp (disch := omega) only [pk_un]; assumption)) (cwV 2 hts gX4_goTo_X4_standIn rfl rfl rfl (by decide +kernel) ⟨Nat.le_of_ble_eq_true rfl, Nat.le_of_ble_eq_true rfl⟩) hP hD hK hX hS hA 0 3 wg_0 rfl rfl hl.1 rfl (Nat.le_of_ble_eq_true rfl) dX4_goTo_89 ⟨Nat.zero_le _, Nat.zero_le _⟩ (fun H locs hP hD hS => ?_)
    refine lv_aload_n hx hb dX4_goTo_92 rfl (lv_at hl 3 rfl) ?_
    refine lv_iload_n hx hb dX4_goTo_93 rfl (lv_at hl 4 rfl) ?_
    refine lv_iload_n hx hb dX4_goTo_94 rfl (lv_at hl 5 rfl) ?_
    refine rwVv CF (c_X4_standIn l D cI cC cW t _ _ _ _ _ _ (by first | (with_reducible first | assumption | exact g20 (by assumption) (by assumption) | exact sl60 (by assumption) | exact pl60 (by assumption) | exact cg60 (by assumption) | exact sea4 (by assumption) | exact in3 (by assumption) | exact dm80 (by assumption) (by assumption) | exact s4 (by assumption)) | (with_reducible (repeat (refine sf_u (by omega) ?_)); assumption) | (simp (disch := omega) only [pk_un]; (with_reducible first | assumption | exact g20 (by assumption) (by assumption) | exact sl60 (by assumption) | exact pl60 (by assumption) | exact cg60 (by assumption) | exact sea4 (by assumption) | exact in3 (by assumption) | exact dm80 (by assumption) (by assumption) | exact s4 (by assumption))) | (unfold vp_in; decide)) (by first | (with_reducible first | assumption | exact g20 (by assumption) (by assumption) | exact sl60 (by assumption) | exact pl60 (by assumption) | exact cg60 (by assumption) | exact sea4 (by assumption) | exact in3 (by assumption) | exact dm80 (by assumption) (by assumption) | exact s4 (by assumption)) | (with_reducible (repeat (refine sf_u (by omega) ?_)); assumption) | (simp (disch := omega) only [pk_un]; (with_reducible first | assumption | exact g20 (by assumption) (by assumption) | exact sl60 (by assumption) | exact pl60 (by assumption) | exact cg60 (by assumption) | exact sea4 (by assumption) | exact in3 (by assumption) | exact dm80 (by assumption) (by assumption) | exact s4 (by assumption))) | (unfold vp_in; decide))) (cwV 2 hts gX4_goTo_X4_standIn rfl rfl rfl (by decide +kernel) ⟨Nat.le_of_ble_eq_true rfl, Nat.le_of_ble_eq_true rfl⟩) hP hD hK hX hS hA 0 3 wg_0 rfl rfl hl.1 rfl (Nat.le_of_ble_eq_true rfl) dX4_goTo_95 ⟨Nat.zero_le _, Nat.zero_le _⟩ (fun H locs hP hD hS => ?_)
    refine lv_iload_n hx hb dX4_goTo_98 rfl (lv_at hl 2 rfl) ?_
    exact rw_ret (_, _) hx hb hr hP hD hS (Eq.trans (if_neg c81) (rfl)) dX4_goTo_99 hlocks

def sp_X4_moveGood (N : Nat → Int32) (G : Nat → Int32) (x1 x2 : Int32) : Int32 × ((Nat → Int32) × (Nat → Int32)) :=
  if (sp_X4_isGood N G x1) = 0 then (((-1 : Int32), (N, G))) else (if (sp_X2_isSlot x2) = 0 then (((-1 : Int32), (N, G))) else (if (sp_X4_isGood N G (G ((ix x2)))) = 0 then (if (sp_X4_canGo N G x1 x2) = 0 then (((-2 : Int32), (N, G))) else (let k47_1 : Int32 × ((Nat → Int32) × (Nat → Int32)) := sp_X4_goTo N G x1 x2; let N2 : Nat → Int32 := k47_1.2.1; let G3 : Nat → Int32 := k47_1.2.2; (((100000000 : Int32) + k47_1.1), (N2, G3)))) else (((-2 : Int32), (N, G)))))
set_option maxHeartbeats 4000000 in
set_option maxRecDepth 100000 in
theorem c_X4_moveGood (l : Launch) (D : va_G) (cI cC cW : ClassId) (t : Nat → Nat) (a : Nat → Nat) (sz : Nat) (N : Nat → Int32) (G : Nat → Int32) (x1 x2 : Int32) (hsf : sfN N) : Met l yX4_moveGood wsX4_moveGood ({ frames := 4, cells := 0, slots := 0, locals := 85 }) (va_Pc [.ref (a 0), .int x1, .int x2] (rwP D (tyL cI cC cW) (wg cI a N G) t sz)) (va_Qi (fun (r : Int32) (u : ((Nat → Int32) × (Nat → Int32))) => (r, u) = sp_X4_moveGood N G x1 x2) (fun u => rwB D (va_A (wg cI a N G) sz) (wg cI a u.1 u.2)) (va_A (wg cI a N G) sz)) 0 0 (va_A (wg cI a N G) sz) := by
  refine Met.ofW (cc := cX4_moveGood) (maxL := 3) (ret := (some .int)) (by decide) rfl ?_
  intro p e s m args below meth c s₁ B hml hv
  obtain ⟨rfl, hsz, hP, hK, hD0, hX⟩ := hv
  have hx := B.exec
  have hb := B.bytes
  have hr := B.returns
  have hts := atoms_spec (ws := wsX4_moveGood) B.pre
  have hown : s.vm.findClass RX4 = some m.cls := findClass_of_methodNamed B.named
  have hlocks := B.notSynchronized
  subst hsz
  have hD := hD0.self (sz := s.heap.size)
  generalize hAe : va_A (wg cI a N G) s.heap.size = A at hD hX ⊢
  have hA : ∀ q : Nat, s.heap.size ≤ q → A q := fun q h => by rw [← hAe]; exact Or.inr h
  have hS : va_S A s.heap s.heap [] := va_S.rf
  have wd1 : (Cond.fieldLink RX4 38 "PickSlots$Warehouse" "goodInSlot" "[I").before [.ref (a 0), .int x1, .int x2].toArray s = true := hts _ (List.mem_of_getElem? (i := 1) rfl)
  have wd2 : (Cond.constant RX4 145 (100000000)).before [.ref (a 0), .int x1, .int x2].toArray s = true := hts _ (List.mem_of_getElem? (i := 2) rfl)
  have hi4 : ∀ w ∈ wsX40, w ∈ wsX4_moveGood := fun w h => List.mem_cons_of_mem _ (List.mem_append_left _ (List.mem_append_right _ (h)))
  have CF : CallFix p m c cX4_moveGood 3 s [.ref (a 0), .int x1, .int x2].toArray wsX4_moveGood RX4 := ⟨hx, hb, hml, hown, hts⟩
  have hl := lv_entry ([.ref (a 0), .int x1, .int x2]) (n := 3) (Nat.le_of_ble_eq_true rfl)
  rw [lg_entry_eq]
  generalize (lg_sl ([.ref (a 0), .int x1, .int x2]) ++ List.replicate (3 - (lg_sl ([.ref (a 0), .int x1, .int x2])).length) Slot.unset).toArray = ls at hl ⊢
  have hl : lv_has ls 3 [(0, .ref (a 0)), (1, .int x1), (2, .int x2)] := hl
  refine lv_aload_n hx hb dX4_moveGood_0 rfl (lv_at hl 0 rfl) ?_
  refine lv_iload_n hx hb dX4_moveGood_1 rfl (lv_at hl 1 rfl) ?_
  refine roV CF (c_X4_isGood l D cI cC cW t _ _ _ _ ) (cwV 1 hts gX4_moveGood_X4_isGood rfl rfl rfl (by decide +kernel) ⟨Nat.le_of_ble_eq_true rfl, Nat.le_of_ble_eq_true rfl⟩) hP hK hX hS 0 3 wg_0 rfl rfl hl.1 rfl (Nat.le_of_ble_eq_true rfl) dX4_moveGood_2 ⟨Nat.zero_le _, Nat.zero_le _⟩ ?_
  refine lv_if_eq (tgt := 15) hx hb dX4_moveGood_5 (by decide) (fun c5 => ?_) (fun c5 => ?_)
  · refine lv_iconst (v := -1) hx hb dX4_moveGood_15 (by decide) ?_
    exact rw_ret (_, _) hx hb hr hP hD hS (Eq.trans (if_pos c5) (rfl)) dX4_moveGood_16 hlocks
  · refine lv_iload_n hx hb dX4_moveGood_8 rfl (lv_at hl 2 rfl) ?_
    refine roS CF (c_X2_isSlot l D cI cC cW t _ ) (va_cwS 1 hts gX4_moveGood_X2_isSlot rfl rfl rfl (by decide +kernel) ⟨Nat.le_of_ble_eq_true rfl, Nat.le_of_ble_eq_true rfl⟩) vP_nil hK hX hS rfl hl.1 rfl (Nat.le_of_ble_eq_true rfl) dX4_moveGood_9 ⟨Nat.zero_le _, Nat.zero_le _⟩ ?_
    refine lv_if_ne (tgt := 17) hx hb dX4_moveGood_12 (by decide) (fun c12 => ?_) (fun c12 => ?_)
    · refine lv_aload_n hx hb dX4_moveGood_17 rfl (lv_at hl 0 rfl) ?_
      refine lv_aload_n hx hb dX4_moveGood_18 rfl (lv_at hl 0 rfl) ?_
      refine va_get (D := D) (ci := 3) (C := RX4) (T := TX4) (N := 13) hx hb hts hi4 hown hK hP 0 wg_0 rfl 8 (by decide) wd1 (fun _ h9 => h9) rfl dX4_moveGood_19 ?_
      refine lv_iload_n hx hb dX4_moveGood_22 rfl (lv_at hl 2 rfl) ?_
      refine va_iald hx hb hK hP 9 0 wg_9 rfl (by first | (with_reducible first | assumption | exact g20 (by assumption) (by assumption) | exact sl60 (by assumption) | exact pl60 (by assumption) | exact cg60 (by assumption) | exact sea4 (by assumption) | exact in3 (by assumption) | exact dm80 (by assumption) (by assumption) | exact s4 (by assumption)) | (with_reducible (repeat (refine sf_u (by omega) ?_)); assumption) | (simp (disch := omega) only [pk_un]; (with_reducible first | assumption | exact g20 (by assumption) (by assumption) | exact sl60 (by assumption) | exact pl60 (by assumption) | exact cg60 (by assumption) | exact sea4 (by assumption) | exact in3 (by assumption) | exact dm80 (by assumption) (by assumption) | exact s4 (by assumption))) | (unfold vp_in; decide)) dX4_moveGood_23 ?_
      refine roV CF (c_X4_isGood l D cI cC cW t _ _ _ _ ) (cwV 1 hts gX4_moveGood_X4_isGood rfl rfl rfl (by decide +kernel) ⟨Nat.le_of_ble_eq_true rfl, Nat.le_of_ble_eq_true rfl⟩) hP hK hX hS 0 3 wg_0 rfl rfl hl.1 rfl (Nat.le_of_ble_eq_true rfl) dX4_moveGood_24 ⟨Nat.zero_le _, Nat.zero_le _⟩ ?_
      refine lv_if_ne (tgt := 39) hx hb dX4_moveGood_27 (by decide) (fun c27 => ?_) (fun c27 => ?_)
      · refine lv_bipush (v := -2) hx hb dX4_moveGood_39 (by decide) ?_
        exact rw_ret (_, _) hx hb hr hP hD hS (Eq.trans (if_neg c5) (Eq.trans (if_neg c12) (Eq.trans (if_neg c27) (rfl)))) dX4_moveGood_41 hlocks
      · refine lv_aload_n hx hb dX4_moveGood_30 rfl (lv_at hl 0 rfl) ?_
        refine lv_iload_n hx hb dX4_moveGood_31 rfl (lv_at hl 1 rfl) ?_
        refine lv_iload_n hx hb dX4_moveGood_32 rfl (lv_at hl 2 rfl) ?_
        refine roV CF (c_X4_canGo l D cI cC cW t _ _ _ _ _ (by first | (with_reducible first | assumption | exact g20 (by assumption) (by assumption) | exact sl60 (by assumption) | exact pl60 (by assumption) | exact cg60 (by assumption) | exact sea4 (by assumption) | exact in3 (by assumption) | exact dm80 (by assumption) (by assumption) | exact s4 (by assumption)) | (with_reducible (repeat (refine sf_u (by omega) ?_)); assumption) | (simp (disch := omega) only [pk_un]; (with_reducible first | assumption | exact g20 (by assumption) (by assumption) | exact sl60 (by assumption) | exact pl60 (by assumption) | exact cg60 (by assumption) | exact sea4 (by assumption) | exact in3 (by assumption) | exact dm80 (by assumption) (by assumption) | exact s4 (by assumption))) | (unfold vp_in; decide)) (by first | (with_reducible first | assumption | exact g20 (by assumption) (by assumption) | exact sl60 (by assumption) | exact pl60 (by assumption) | exact cg60 (by assumption) | exact sea4 (by assumption) | exact in3 (by assumption) | exact dm80 (by assumption) (by assumption) | exact s4 (by assumption)) | (with_reducible (repeat (refine sf_u (by omega) ?_)); assumption) | (simp (disch := omega) only [pk_un]; (with_reducible first | assumption | exact g20 (by assumption) (by assumption) | exact sl60 (by assumption) | exact pl60 (by assumption) | exact cg60 (by assumption) | exact sea4 (by assumption) | exact in3 (by assumption) | exact dm80 (by assumption) (by assumption) | exact s4 (by assumption))) | (unfold vp_in; decide)) (by first | (with_reducible first | assumption | exact g20 (by assumption) (by assumption) | exact sl60 (by assumption) | exact pl60 (by assumption) | exact cg60 (by assumption) | exact sea4 (by assumption) | exact in3 (by assumption) | exact dm80 (by assumption) (by assumption) | exact s4 (by assumption)) | (with_reducible (repeat (refine sf_u (by omega) ?_)); assumption) | (simp (disch := omega) only [pk_un]; (with_reducible first | assumption | exact g20 (by assumption) (by assumption) | exact sl60 (by assumption) | exact pl60 (by assumption) | exact cg60 (by assumption) | exact sea4 (by assumption) | exact in3 (by assumption) | exact dm80 (by assumption) (by assumption) | exact s4 (by assumption))) | (unfold vp_in; decide))) (cwV 2 hts gX4_moveGood_X4_canGo rfl rfl rfl (by decide +kernel) ⟨Nat.le_of_ble_eq_true rfl, Nat.le_of_ble_eq_true rfl⟩) hP hK hX hS 0 3 wg_0 rfl rfl hl.1 rfl (Nat.le_of_ble_eq_true rfl) dX4_moveGood_33 ⟨Nat.zero_le _, Nat.zero_le _⟩ ?_
        refine lv_if_ne (tgt := 42) hx hb dX4_moveGood_36 (by decide) (fun c36 => ?_) (fun c36 => ?_)
        · refine lv_ldc hx hb hown wd2 dX4_moveGood_42 ?_
          refine lv_aload_n hx hb dX4_moveGood_44 rfl (lv_at hl 0 rfl) ?_
          refine lv_iload_n hx hb dX4_moveGood_45 rfl (lv_at hl 1 rfl) ?_
          refine lv_iload_n hx hb dX4_moveGood_46 rfl (lv_at hl 2 rfl) ?_
          refine rwV CF (c_X4_goTo l D cI cC cW t _ _ _ _ _ _ (by first | (with_reducible first | assumption | exact g20 (by assumption) (by assumption) | exact sl60 (by assumption) | exact pl60 (by assumption) | exact cg60 (by assumption) | exact sea4 (by assumption) | exact in3 (by assumption) | exact dm80 (by assumption) (by assumption) | exact s4 (by assumption)) | (with_reducible (repeat (refine sf_u (by omega) ?_)); assumption) | (simp (disch := omega) only [pk_un]; (with_reducible first | assumption | exact g20 (by assumption) (by assumption) | exact sl60 (by assumption) | exact pl60 (by assumption) | exact cg60 (by assumption) | exact sea4 (by assumption) | exact in3 (by assumption) | exact dm80 (by assumption) (by assumption) | exact s4 (by assumption))) | (unfold vp_in; decide)) (by first | (with_reducible first | assumption | exact g20 (by assumption) (by assumption) | exact sl60 (by assumption) | exact pl60 (by assumption) | exact cg60 (by assumption) | exact sea4 (by assumption) | exact in3 (by assumption) | exact dm80 (by assumption) (by assumption) | exact s4 (by assumption)) | (with_reducible (repeat (refine sf_u (by omega) ?_)); assumption) | (simp (disch := omega) only [pk_un]; (with_reducible first | assumption | exact g20 (by assumption) (by assumption) | exact sl60 (by assumption) | exact pl60 (by assumption) | exact cg60 (by assumption) | exact sea4 (by assumption) | exact in3 (by assumption) | exact dm80 (by assumption) (by assumption) | exact s4 (by assumption))) | (unfold vp_in; decide)) (by first | (with_reducible first | assumption | exact g20 (by assumption) (by assumption) | exact sl60 (by assumption) | exact pl60 (by assumption) | exact cg60 (by assumption) | exact sea4 (by assumption) | exact in3 (by assumption) | exact dm80 (by assumption) (by assumption) | exact s4 (by assumption)) | (with_reducible (repeat (refine sf_u (by omega) ?_)); assumption) | (simp (disch := omega) only [pk_un]; (with_reducible first | assumption | exact g20 (by assumption) (by assumption) | exact sl60 (by assumption) | exact pl60 (by assumption) | exact cg60 (by assumption) | exact sea4 (by assumption) | exact in3 (by assumption) | exact dm80 (by assumption) (by assumption) | exact s4 (by assumption))) | (unfold vp_in; decide)) (by first | (with_reducible first | assumption | exact g20 (by assumption) (by assumption) | exact sl60 (by assumption) | exact pl60 (by assumption) | exact cg60 (by assumption) | exact sea4 (by assumption) | exact in3 (by assumption) | exact dm80 (by assumption) (by assumption) | exact s4 (by assumption)) | (with_reducible (repeat (refine sf_u (by omega) ?_)); assumption) | (simp (disch := omega) only [pk_un]; (with_reducible first | assumption | exact g20 (by assumption) (by assumption) | exact sl60 (by assumption) | exact pl60 (by assumption) | exact cg60 (by assumption) | exact sea4 (by assumption) | exact in3 (by assumption) | exact dm80 (by assumption) (by assumption) | exact s4 (by assumption))) | (unfold vp_in; decide))) (cwV 2 hts gX4_moveGood_X4_goTo rfl rfl rfl (by decide +kernel) ⟨Nat.le_of_ble_eq_true rfl, Nat.le_of_ble_eq_true rfl⟩) hP hD hK hX hS hA 0 3 wg_0 rfl rfl hl.1 rfl (Nat.le_of_ble_eq_true rfl) dX4_moveGood_47 ⟨Nat.zero_le _, Nat.zero_le _⟩ (fun H locs hP hD hS => ?_)
          refine lv_iadd hx hb dX4_moveGood_50 ?_
          exact rw_ret (_, _) hx hb hr hP hD hS (Eq.trans (if_neg c5) (Eq.trans (if_neg c12) (Eq.trans (if_pos c27) (Eq.trans (if_neg c36) (rfl))))) dX4_moveGood_51 hlocks
        · refine lv_bipush (v := -2) hx hb dX4_moveGood_39 (by decide) ?_
          exact rw_ret (_, _) hx hb hr hP hD hS (Eq.trans (if_neg c5) (Eq.trans (if_neg c12) (Eq.trans (if_pos c27) (Eq.trans (if_pos c36) (rfl))))) dX4_moveGood_41 hlocks
    · refine lv_iconst (v := -1) hx hb dX4_moveGood_15 (by decide) ?_
      exact rw_ret (_, _) hx hb hr hP hD hS (Eq.trans (if_neg c5) (Eq.trans (if_pos c12) (rfl))) dX4_moveGood_16 hlocks

def sp_X4_exchangeGoods (N : Nat → Int32) (G : Nat → Int32) (x1 x2 : Int32) : Int32 × ((Nat → Int32) × (Nat → Int32)) :=
  if (sp_X4_isGood N G x1) = 0 then (((-1 : Int32), (N, G))) else (if (sp_X4_isGood N G x2) = 0 then (((-1 : Int32), (N, G))) else (if x1 = x2 then (((-1 : Int32), (N, G))) else (if (sp_X4_isPlaced N G x2) = 0 then (((-2 : Int32), (N, G))) else (if (sp_X4_canGo N G x1 (N (22 + 11 * (ix x2)))) = 0 then (((-2 : Int32), (N, G))) else (let k58_1 : Int32 × ((Nat → Int32) × (Nat → Int32)) := sp_X4_goTo N G x1 (N (22 + 11 * (ix x2))); let N2 : Nat → Int32 := k58_1.2.1; let G3 : Nat → Int32 := k58_1.2.2; (((100000000 : Int32) + k58_1.1), (N2, G3)))))))
set_option maxHeartbeats 4000000 in
set_option maxRecDepth 100000 in
theorem c_X4_exchangeGoods (l : Launch) (D : va_G) (cI cC cW : ClassId) (t : Nat → Nat) (a : Nat → Nat) (sz : Nat) (N : Nat → Int32) (G : Nat → Int32) (x1 x2 : Int32) (hsf : sfN N) : Met l yX4_exchangeGoods wsX4_exchangeGoods ({ frames := 4, cells := 0, slots := 0, locals := 85 }) (va_Pc [.ref (a 0), .int x1, .int x2] (rwP D (tyL cI cC cW) (wg cI a N G) t sz)) (va_Qi (fun (r : Int32) (u : ((Nat → Int32) × (Nat → Int32))) => (r, u) = sp_X4_exchangeGoods N G x1 x2) (fun u => rwB D (va_A (wg cI a N G) sz) (wg cI a u.1 u.2)) (va_A (wg cI a N G) sz)) 0 0 (va_A (wg cI a N G) sz) := by
  refine Met.ofW (cc := cX4_exchangeGoods) (maxL := 3) (ret := (some .int)) (by decide) rfl ?_
  intro p e s m args below meth c s₁ B hml hv
  obtain ⟨rfl, hsz, hP, hK, hD0, hX⟩ := hv
  have hx := B.exec
  have hb := B.bytes
  have hr := B.returns
  have hts := atoms_spec (ws := wsX4_exchangeGoods) B.pre
  have hown : s.vm.findClass RX4 = some m.cls := findClass_of_methodNamed B.named
  have hlocks := B.notSynchronized
  subst hsz
  have hD := hD0.self (sz := s.heap.size)
  generalize hAe : va_A (wg cI a N G) s.heap.size = A at hD hX ⊢
  have hA : ∀ q : Nat, s.heap.size ≤ q → A q := fun q h => by rw [← hAe]; exact Or.inr h
  have hS : va_S A s.heap s.heap [] := va_S.rf
  have wd1 : (Cond.fieldLink RX4 21 "PickSlots$Warehouse" "slotOfGood" "[I").before [.ref (a 0), .int x1, .int x2].toArray s = true := hts _ (List.mem_of_getElem? (i := 1) rfl)
  have wd2 : (Cond.constant RX4 145 (100000000)).before [.ref (a 0), .int x1, .int x2].toArray s = true := hts _ (List.mem_of_getElem? (i := 2) rfl)
  have hi4 : ∀ w ∈ wsX40, w ∈ wsX4_exchangeGoods := fun w h => List.mem_cons_of_mem _ (List.mem_append_left _ (List.mem_append_right _ (h)))
  have CF : CallFix p m c cX4_exchangeGoods 3 s [.ref (a 0), .int x1, .int x2].toArray wsX4_exchangeGoods RX4 := ⟨hx, hb, hml, hown, hts⟩
  have hl := lv_entry ([.ref (a 0), .int x1, .int x2]) (n := 3) (Nat.le_of_ble_eq_true rfl)
  rw [lg_entry_eq]
  generalize (lg_sl ([.ref (a 0), .int x1, .int x2]) ++ List.replicate (3 - (lg_sl ([.ref (a 0), .int x1, .int x2])).length) Slot.unset).toArray = ls at hl ⊢
  have hl : lv_has ls 3 [(0, .ref (a 0)), (1, .int x1), (2, .int x2)] := hl
  refine lv_aload_n hx hb dX4_exchangeGoods_0 rfl (lv_at hl 0 rfl) ?_
  refine lv_iload_n hx hb dX4_exchangeGoods_1 rfl (lv_at hl 1 rfl) ?_
  refine roV CF (c_X4_isGood l D cI cC cW t _ _ _ _ ) (cwV 1 hts gX4_exchangeGoods_X4_isGood rfl rfl rfl (by decide +kernel) ⟨Nat.le_of_ble_eq_true rfl, Nat.le_of_ble_eq_true rfl⟩) hP hK hX hS 0 3 wg_0 rfl rfl hl.1 rfl (Nat.le_of_ble_eq_true rfl) dX4_exchangeGoods_2 ⟨Nat.zero_le _, Nat.zero_le _⟩ ?_
  refine lv_if_eq (tgt := 21) hx hb dX4_exchangeGoods_5 (by decide) (fun c5 => ?_) (fun c5 => ?_)
  · refine lv_iconst (v := -1) hx hb dX4_exchangeGoods_21 (by decide) ?_
    exact rw_ret (_, _) hx hb hr hP hD hS (Eq.trans (if_pos c5) (rfl)) dX4_exchangeGoods_22 hlocks
  · refine lv_aload_n hx hb dX4_exchangeGoods_8 rfl (lv_at hl 0 rfl) ?_
    refine lv_iload_n hx hb dX4_exchangeGoods_9 rfl (lv_at hl 2 rfl) ?_
    refine roV CF (c_X4_isGood l D cI cC cW t _ _ _ _ ) (cwV 1 hts gX4_exchangeGoods_X4_isGood rfl rfl rfl (by decide +kernel) ⟨Nat.le_of_ble_eq_true rfl, Nat.le_of_ble_eq_true rfl⟩) hP hK hX hS 0 3 wg_0 rfl rfl hl.1 rfl (Nat.le_of_ble_eq_true rfl) dX4_exchangeGoods_10 ⟨Nat.zero_le _, Nat.zero_le _⟩ ?_
    refine lv_if_eq (tgt := 21) hx hb dX4_exchangeGoods_13 (by decide) (fun c13 => ?_) (fun c13 => ?_)
    · refine lv_iconst (v := -1) hx hb dX4_exchangeGoods_21 (by decide) ?_
      exact rw_ret (_, _) hx hb hr hP hD hS (Eq.trans (if_neg c5) (Eq.trans (if_pos c13) (rfl))) dX4_exchangeGoods_22 hlocks
    · refine lv_iload_n hx hb dX4_exchangeGoods_16 rfl (lv_at hl 1 rfl) ?_
      refine lv_iload_n hx hb dX4_exchangeGoods_17 rfl (lv_at hl 2 rfl) ?_
      refine lv_icmp_ne (tgt := 23) hx hb dX4_exchangeGoods_18 (by decide) (fun c18 => ?_) (fun c18 => ?_)
      · refine lv_aload_n hx hb dX4_exchangeGoods_23 rfl (lv_at hl 0 rfl) ?_
        refine lv_iload_n hx hb dX4_exchangeGoods_24 rfl (lv_at hl 2 rfl) ?_
        refine roV CF (c_X4_isPlaced l D cI cC cW t _ _ _ _ (by first | (with_reducible first | assumption | exact g20 (by assumption) (by assumption) | exact sl60 (by assumption) | exact pl60 (by assumption) | exact cg60 (by assumption) | exact sea4 (by assumption) | exact in3 (by assumption) | exact dm80 (by assumption) (by assumption) | exact s4 (by assumption)) | (with_reducible (repeat (refine sf_u (by omega) ?_)); assumption) | (simp (disch := omega) only [pk_un]; (with_reducible first | assumption | exact g20 (by assumption) (by assumption) | exact sl60 (by assumption) | exact pl60 (by assumption) | exact cg60 (by assumption) | exact sea4 (by assumption) | exact in3 (by assumption) | exact dm80 (by assumption) (by assumption) | exact s4 (by assumption))) | (unfold vp_in; decide))) (cwV 1 hts gX4_exchangeGoods_X4_isPlaced rfl rfl rfl (by decide +kernel) ⟨Nat.le_of_ble_eq_true rfl, Nat.le_of_ble_eq_true rfl⟩) hP hK hX hS 0 3 wg_0 rfl rfl hl.1 rfl (Nat.le_of_ble_eq_true rfl) dX4_exchangeGoods_25 ⟨Nat.zero_le _, Nat.zero_le _⟩ ?_
        refine lv_if_eq (tgt := 45) hx hb dX4_exchangeGoods_28 (by decide) (fun c28 => ?_) (fun c28 => ?_)
        · refine lv_bipush (v := -2) hx hb dX4_exchangeGoods_45 (by decide) ?_
          exact rw_ret (_, _) hx hb hr hP hD hS (Eq.trans (if_neg c5) (Eq.trans (if_neg c13) (Eq.trans (if_neg c18) (Eq.trans (if_pos c28) (rfl))))) dX4_exchangeGoods_47 hlocks
        · refine lv_aload_n hx hb dX4_exchangeGoods_31 rfl (lv_at hl 0 rfl) ?_
          refine lv_iload_n hx hb dX4_exchangeGoods_32 rfl (lv_at hl 1 rfl) ?_
          refine lv_aload_n hx hb dX4_exchangeGoods_33 rfl (lv_at hl 0 rfl) ?_
          refine va_get (D := D) (ci := 3) (C := RX4) (T := TX4) (N := 13) hx hb hts hi4 hown hK hP 0 wg_0 rfl 3 (by decide) wd1 (fun _ h9 => h9) rfl dX4_exchangeGoods_34 ?_
          refine lv_iload_n hx hb dX4_exchangeGoods_37 rfl (lv_at hl 2 rfl) ?_
          refine va_iald hx hb hK hP 4 0 wg_4 rfl (by first | (with_reducible first | assumption | exact g20 (by assumption) (by assumption) | exact sl60 (by assumption) | exact pl60 (by assumption) | exact cg60 (by assumption) | exact sea4 (by assumption) | exact in3 (by assumption) | exact dm80 (by assumption) (by assumption) | exact s4 (by assumption)) | (with_reducible (repeat (refine sf_u (by omega) ?_)); assumption) | (simp (disch := omega) only [pk_un]; (with_reducible first | assumption | exact g20 (by assumption) (by assumption) | exact sl60 (by assumption) | exact pl60 (by assumption) | exact cg60 (by assumption) | exact sea4 (by assumption) | exact in3 (by assumption) | exact dm80 (by assumption) (by assumption) | exact s4 (by assumption))) | (unfold vp_in; decide)) dX4_exchangeGoods_38 ?_
          refine roV CF (c_X4_canGo l D cI cC cW t _ _ _ _ _ (by first | (with_reducible first | assumption | exact g20 (by assumption) (by assumption) | exact sl60 (by assumption) | exact pl60 (by assumption) | exact cg60 (by assumption) | exact sea4 (by assumption) | exact in3 (by assumption) | exact dm80 (by assumption) (by assumption) | exact s4 (by assumption)) | (with_reducible (repeat (refine sf_u (by omega) ?_)); assumption) | (simp (disch := omega) only [pk_un]; (with_reducible first | assumption | exact g20 (by assumption) (by assumption) | exact sl60 (by assumption) | exact pl60 (by assumption) | exact cg60 (by assumption) | exact sea4 (by assumption) | exact in3 (by assumption) | exact dm80 (by assumption) (by assumption) | exact s4 (by assumption))) | (unfold vp_in; decide)) (by first | (with_reducible first | assumption | exact g20 (by assumption) (by assumption) | exact sl60 (by assumption) | exact pl60 (by assumption) | exact cg60 (by assumption) | exact sea4 (by assumption) | exact in3 (by assumption) | exact dm80 (by assumption) (by assumption) | exact s4 (by assumption)) | (with_reducible (repeat (refine sf_u (by omega) ?_)); assumption) | (simp (disch := omega) only [pk_un]; (with_reducible first | assumption | exact g20 (by assumption) (by assumption) | exact sl60 (by assumption) | exact pl60 (by assumption) | exact cg60 (by assumption) | exact sea4 (by assumption) | exact in3 (by assumption) | exact dm80 (by assumption) (by assumption) | exact s4 (by assumption))) | (unfold vp_in; decide)) (by first | (with_reducible first | assumption | exact g20 (by assumption) (by assumption) | exact sl60 (by assumption) | exact pl60 (by assumption) | exact cg60 (by assumption) | exact sea4 (by assumption) | exact in3 (by assumption) | exact dm80 (by assumption) (by assumption) | exact s4 (by assumption)) | (with_reducible (repeat (refine sf_u (by omega) ?_)); assumption) | (simp (disch := omega) only [pk_un]; (with_reducible first | assumption | exact g20 (by assumption) (by assumption) | exact sl60 (by assumption) | exact pl60 (by assumption) | exact cg60 (by assumption) | exact sea4 (by assumption) | exact in3 (by assumption) | exact dm80 (by assumption) (by assumption) | exact s4 (by assumption))) | (unfold vp_in; decide))) (cwV 2 hts gX4_exchangeGoods_X4_canGo rfl rfl rfl (by decide +kernel) ⟨Nat.le_of_ble_eq_true rfl, Nat.le_of_ble_eq_true rfl⟩) hP hK hX hS 0 3 wg_0 rfl rfl hl.1 rfl (Nat.le_of_ble_eq_true rfl) dX4_exchangeGoods_39 ⟨Nat.zero_le _, Nat.zero_le _⟩ ?_
          refine lv_if_ne (tgt := 48) hx hb dX4_exchangeGoods_42 (by decide) (fun c42 => ?_) (fun c42 => ?_)
          · refine lv_ldc hx hb hown wd2 dX4_exchangeGoods_48 ?_
            refine lv_aload_n hx hb dX4_exchangeGoods_50 rfl (lv_at hl 0 rfl) ?_
            refine lv_iload_n hx hb dX4_exchangeGoods_51 rfl (lv_at hl 1 rfl) ?_
            refine lv_aload_n hx hb dX4_exchangeGoods_52 rfl (lv_at hl 0 rfl) ?_
            refine va_get (D := D) (ci := 3) (C := RX4) (T := TX4) (N := 13) hx hb hts hi4 hown hK hP 0 wg_0 rfl 3 (by decide) wd1 (fun _ h9 => h9) rfl dX4_exchangeGoods_53 ?_
            refine lv_iload_n hx hb dX4_exchangeGoods_56 rfl (lv_at hl 2 rfl) ?_
            refine va_iald hx hb hK hP 4 0 wg_4 rfl (by first | (with_reducible first | assumption | exact g20 (by assumption) (by assumption) | exact sl60 (by assumption) | exact pl60 (by assumption) | exact cg60 (by assumption) | exact sea4 (by assumption) | exact in3 (by assumption) | exact dm80 (by assumption) (by assumption) | exact s4 (by assumption)) | (with_reducible (repeat (refine sf_u (by omega) ?_)); assumption) | (simp (disch := omega) only [pk_un]; (with_reducible first | assumption | exact g20 (by assumption) (by assumption) | exact sl60 (by assumption) | exact pl60 (by assumption) | exact cg60 (by assumption) | exact sea4 (by assumption) | exact in3 (by assumption) | exact dm80 (by assumption) (by assumption) | exact s4 (by assumption))) | (unfold vp_in; decide)) dX4_exchangeGoods_57 ?_
            refine rwV CF (c_X4_goTo l D cI cC cW t _ _ _ _ _ _ (by first | (with_reducible first | assumption | exact g20 (by assumption) (by assumption) | exact sl60 (by assumption) | exact pl60 (by assumption) | exact cg60 (by assumption) | exact sea4 (by assumption) | exact in3 (by assumption) | exact dm80 (by assumption) (by assumption) | exact s4 (by assumption)) | (with_reducible (repeat (refine sf_u (by omega) ?_)); assumption) | (simp (disch := omega) only [pk_un]; (with_reducible first | assumption | exact g20 (by assumption) (by assumption) | exact sl60 (by assumption) | exact pl60 (by assumption) | exact cg60 (by assumption) | exact sea4 (by assumption) | exact in3 (by assumption) | exact dm80 (by assumption) (by assumption) | exact s4 (by assumption))) | (unfold vp_in; decide)) (by first | (with_reducible first | assumption | exact g20 (by assumption) (by assumption) | exact sl60 (by assumption) | exact pl60 (by assumption) | exact cg60 (by assumption) | exact sea4 (by assumption) | exact in3 (by assumption) | exact dm80 (by assumption) (by assumption) | exact s4 (by assumption)) | (with_reducible (repeat (refine sf_u (by omega) ?_)); assumption) | (simp (disch := omega) only [pk_un]; (with_reducible first | assumption | exact g20 (by assumption) (by assumption) | exact sl60 (by assumption) | exact pl60 (by assumption) | exact cg60 (by assumption) | exact sea4 (by assumption) | exact in3 (by assumption) | exact dm80 (by assumption) (by assumption) | exact s4 (by assumption))) | (unfold vp_in; decide)) (by first | (with_reducible first | assumption | exact g20 (by assumption) (by assumption) | exact sl60 (by assumption) | exact pl60 (by assumption) | exact cg60 (by assumption) | exact sea4 (by assumption) | exact in3 (by assumption) | exact dm80 (by assumption) (by assumption) | exact s4 (by assumption)) | (with_reducible (repeat (refine sf_u (by omega) ?_)); assumption) | (simp (disch := omega) only [pk_un]; (with_reducible first | assumption | exact g20 (by assumption) (by assumption) | exact sl60 (by assumption) | exact pl60 (by assumption) | exact cg60 (by assumption) | exact sea4 (by assumption) | exact in3 (by assumption) | exact dm80 (by assumption) (by assumption) | exact s4 (by assumption))) | (unfold vp_in; decide)) (by first | (with_reducible first | assumption | exact g20 (by assumption) (by assumption) | exact sl60 (by assumption) | exact pl60 (by assumption) | exact cg60 (by assumption) | exact sea4 (by assumption) | exact in3 (by assumption) | exact dm80 (by assumption) (by assumption) | exact s4 (by assumption)) | (with_reducible (repeat (refine sf_u (by omega) ?_)); assumption) | (simp (disch := omega) only [pk_un]; (with_reducible first | assumption | exact g20 (by assumption) (by assumption) | exact sl60 (by assumption) | exact pl60 (by assumption) | exact cg60 (by assumption) | exact sea4 (by assumption) | exact in3 (by assumption) | exact dm80 (by assumption) (by assumption) | exact s4 (by assumption))) | (unfold vp_in; decide))) (cwV 2 hts gX4_exchangeGoods_X4_goTo rfl rfl rfl (by decide +kernel) ⟨Nat.le_of_ble_eq_true rfl, Nat.le_of_ble_eq_true rfl⟩) hP hD hK hX hS hA 0 3 wg_0 rfl rfl hl.1 rfl (Nat.le_of_ble_eq_true rfl) dX4_exchangeGoods_58 ⟨Nat.zero_le _, Nat.zero_le _⟩ (fun H locs hP hD hS => ?_)
            refine lv_iadd hx hb dX4_exchangeGoods_61 ?_
            exact rw_ret (_, _) hx hb hr hP hD hS (Eq.trans (if_neg c5) (Eq.trans (if_neg c13) (Eq.trans (if_neg c18) (Eq.trans (if_neg c28) (Eq.trans (if_neg c42) (rfl)))))) dX4_exchangeGoods_62 hlocks
          · refine lv_bipush (v := -2) hx hb dX4_exchangeGoods_45 (by decide) ?_
            exact rw_ret (_, _) hx hb hr hP hD hS (Eq.trans (if_neg c5) (Eq.trans (if_neg c13) (Eq.trans (if_neg c18) (Eq.trans (if_neg c28) (Eq.trans (if_pos c42) (rfl)))))) dX4_exchangeGoods_47 hlocks
      · refine lv_iconst (v := -1) hx hb dX4_exchangeGoods_21 (by decide) ?_
        exact rw_ret (_, _) hx hb hr hP hD hS (Eq.trans (if_neg c5) (Eq.trans (if_neg c13) (Eq.trans (if_pos c18) (rfl)))) dX4_exchangeGoods_22 hlocks

def lp20_X4_finishWeek (G : Nat → Int32) : Nat → Int32 → Int32 → (Nat → Int32) → Int32 × ((Nat → Int32) × (Nat → Int32))
  | 0, v2, v1, Nw => (0, (Nw, G))
  | n + 1, v2, v1, Nw => if (Nw 0) ≤ v2 then (let N101 : Nat → Int32 := upd Nw (1) ((Nw 1) + (1 : Int32)); ((N101 1), (N101, G))) else (let N101 : Nat → Int32 := upd Nw (18 + 11 * ((ix ((v2 * (4 : Int32)) + v1)) / 4) + (ix ((v2 * (4 : Int32)) + v1)) % 4) (if (999 : Int32) < ((((3 : Int32) * (sp_X4_demandOf Nw G v2 v1)) + (Nw (25 + 11 * (ix v2)))) / (4 : Int32)) then (999 : Int32) else ((((3 : Int32) * (sp_X4_demandOf Nw G v2 v1)) + (Nw (25 + 11 * (ix v2)))) / (4 : Int32))); let N102 : Nat → Int32 := upd N101 (25 + 11 * (ix v2)) (0 : Int32); lp20_X4_finishWeek G n (v2 + (1 : Int32)) v1 N102)
theorem lp20_X4_finishWeek_s (G : Nat → Int32) (n : Nat) (v2 : Int32) (v1 : Int32) (Nw : Nat → Int32) : lp20_X4_finishWeek G (n + 1) v2 v1 Nw = if (Nw 0) ≤ v2 then (let N101 : Nat → Int32 := upd Nw (1) ((Nw 1) + (1 : Int32)); ((N101 1), (N101, G))) else (let N101 : Nat → Int32 := upd Nw (18 + 11 * ((ix ((v2 * (4 : Int32)) + v1)) / 4) + (ix ((v2 * (4 : Int32)) + v1)) % 4) (if (999 : Int32) < ((((3 : Int32) * (sp_X4_demandOf Nw G v2 v1)) + (Nw (25 + 11 * (ix v2)))) / (4 : Int32)) then (999 : Int32) else ((((3 : Int32) * (sp_X4_demandOf Nw G v2 v1)) + (Nw (25 + 11 * (ix v2)))) / (4 : Int32))); let N102 : Nat → Int32 := upd N101 (25 + 11 * (ix v2)) (0 : Int32); lp20_X4_finishWeek G n (v2 + (1 : Int32)) v1 N102) := rfl
def sp_X4_finishWeek (N : Nat → Int32) (G : Nat → Int32) : Int32 × ((Nat → Int32) × (Nat → Int32)) :=
  if (N 1) < (1000 : Int32) then (lp20_X4_finishWeek G 21 (0 : Int32) (sp_X4_presentSeason N G) N) else (((-3 : Int32), (N, G)))
set_option maxHeartbeats 4000000 in
set_option maxRecDepth 100000 in
theorem c_X4_finishWeek (l : Launch) (D : va_G) (cI cC cW : ClassId) (t : Nat → Nat) (a : Nat → Nat) (sz : Nat) (N : Nat → Int32) (G : Nat → Int32) (hsf : sfN N) : Met l yX4_finishWeek wsX4_finishWeek ({ frames := 1, cells := 0, slots := 0, locals := 22 }) (va_Pc [.ref (a 0)] (rwP D (tyL cI cC cW) (wg cI a N G) t sz)) (va_Qi (fun (r : Int32) (u : ((Nat → Int32) × (Nat → Int32))) => (r, u) = sp_X4_finishWeek N G) (fun u => rwB D (va_A (wg cI a N G) sz) (wg cI a u.1 u.2)) (va_A (wg cI a N G) sz)) 0 0 (va_A (wg cI a N G) sz) := by
  refine Met.ofW (cc := cX4_finishWeek) (maxL := 4) (ret := (some .int)) (by decide) rfl ?_
  intro p e s m args below meth c s₁ B hml hv
  obtain ⟨rfl, hsz, hP, hK, hD0, hX⟩ := hv
  have hx := B.exec
  have hb := B.bytes
  have hr := B.returns
  have hts := atoms_spec (ws := wsX4_finishWeek) B.pre
  have hown : s.vm.findClass RX4 = some m.cls := findClass_of_methodNamed B.named
  have hlocks := B.notSynchronized
  subst hsz
  have hD := hD0.self (sz := s.heap.size)
  generalize hAe : va_A (wg cI a N G) s.heap.size = A at hD hX ⊢
  have hA : ∀ q : Nat, s.heap.size ≤ q → A q := fun q h => by rw [← hAe]; exact Or.inr h
  have hS : va_S A s.heap s.heap [] := va_S.rf
  have wd1 : (Cond.fieldLink RX4 63 "PickSlots$Warehouse" "week" "I").before [.ref (a 0)].toArray s = true := hts _ (List.mem_of_getElem? (i := 1) rfl)
  have wd2 : (Cond.fieldLink RX4 59 "PickSlots$Warehouse" "goods" "I").before [.ref (a 0)].toArray s = true := hts _ (List.mem_of_getElem? (i := 2) rfl)
  have wd3 : (Cond.fieldLink RX4 30 "PickSlots$Warehouse" "weekPicks" "[I").before [.ref (a 0)].toArray s = true := hts _ (List.mem_of_getElem? (i := 3) rfl)
  have wd4 : (Cond.fieldLink RX4 18 "PickSlots$Warehouse" "seasonDemands" "[I").before [.ref (a 0)].toArray s = true := hts _ (List.mem_of_getElem? (i := 4) rfl)
  have wd5 : (Cond.methodLink RX4 66 Lib.Math.min.name).before [.ref (a 0)].toArray s = true := hts _ (List.mem_of_getElem? (i := 5) rfl)
  have wd6 : (Cond.static Lib.Math.min.name).before [.ref (a 0)].toArray s = true := hts _ (List.mem_of_getElem? (i := 6) rfl)
  have wd7 : (Cond.initialized "java/lang/Math").before [.ref (a 0)].toArray s = true := hts _ (List.mem_of_getElem? (i := 7) rfl)
  have wd8 : (Cond.code Lib.Math.min.name Lib.Math.min.code 2 (some .int)).before [.ref (a 0)].toArray s = true := hts _ (List.mem_of_getElem? (i := 8) rfl)
  have hi4 : ∀ w ∈ wsX40, w ∈ wsX4_finishWeek := fun w h => List.mem_cons_of_mem _ (List.mem_append_right _ (h))
  have CF : CallFix p m c cX4_finishWeek 4 s [.ref (a 0)].toArray wsX4_finishWeek RX4 := ⟨hx, hb, hml, hown, hts⟩
  have hl := lv_entry ([.ref (a 0)]) (n := 4) (Nat.le_of_ble_eq_true rfl)
  rw [lg_entry_eq]
  generalize (lg_sl ([.ref (a 0)]) ++ List.replicate (4 - (lg_sl ([.ref (a 0)])).length) Slot.unset).toArray = ls at hl ⊢
  have hl : lv_has ls 4 [(0, .ref (a 0))] := hl
  refine lv_aload_n hx hb dX4_finishWeek_0 rfl (lv_at hl 0 rfl) ?_
  refine va_get (D := D) (ci := 3) (C := RX4) (T := TX4) (N := 13) hx hb hts hi4 hown hK hP 0 wg_0 rfl 12 (by decide) wd1 (fun _ h9 => h9) rfl dX4_finishWeek_1 ?_
  refine lv_sipush (v := 1000) hx hb dX4_finishWeek_4 (by decide) ?_
  refine lv_icmp_lt (tgt := 13) hx hb dX4_finishWeek_7 (by decide) (fun c7 => ?_) (fun c7 => ?_)
  · refine lv_aload_n hx hb dX4_finishWeek_13 rfl (lv_at hl 0 rfl) ?_
    refine roV CF (c_X4_presentSeason l D cI cC cW t _ _ _  ) (cwV 0 hts gX4_finishWeek_X4_presentSeason rfl rfl rfl (by decide +kernel) ⟨Nat.le_of_ble_eq_true rfl, Nat.le_of_ble_eq_true rfl⟩) hP hK hX hS 0 3 wg_0 rfl rfl hl.1 rfl (Nat.le_of_ble_eq_true rfl) dX4_finishWeek_14 ⟨Nat.zero_le _, Nat.zero_le _⟩ ?_
    refine lv_istore_n (lv' := [(1, .int _), (0, .ref _)]) hx hb dX4_finishWeek_17 rfl hl (by decide) rfl (fun ls hl => ?_)
    refine lv_iconst (v := 0) hx hb dX4_finishWeek_18 (by decide) ?_
    refine lv_istore_n (lv' := [(2, .int _), (1, .int _), (0, .ref _)]) hx hb dX4_finishWeek_19 rfl hl (by decide) rfl (fun ls hl => ?_)
    have L20 : ∀ (n20 : Nat) (v2 v1 : Int32) (Nw : Nat → Int32), (sfN Nw) → (vp_in v1 4) → (0 ≤ v2.toInt) → (v2.toInt ≤ (Nw 0).toInt) → ((Nw 0).toInt - v2.toInt < (n20 : Int)) → sp_X4_finishWeek N G = lp20_X4_finishWeek G (n20) v2 v1 Nw → ∀ (ls : Array Slot), lv_has ls 4 [(2, .int v2), (1, .int v1), (0, .ref (a 0))] → ∀ (H : Heap) (locs : List Loc), va_P D vwCl (wg cI a Nw G) H → va_D A (wg cI a Nw G) → va_S A s.heap H locs → W p l e (headSpec wsX4_finishWeek ({ frames := 1, cells := 0, slots := 0, locals := 22 } : Room)).room s m [.ref (a 0)].toArray below meth c H locs 0 0 (MQ below (va_Qi (fun (r : Int32) (u : ((Nat → Int32) × (Nat → Int32))) => (r, u) = sp_X4_finishWeek N G) (fun u => rwB D A (wg cI a u.1 u.2)) A) [.ref (a 0)].toArray s 0 0 A) (F0 m 20 ls []) := by
      intro n20
      induction n20 with
      | zero => intro v2 v1 Nw hsw hv1 i1 i2 im; exfalso; omega
      | succ n20 ih20 =>
        intro v2 v1 Nw hsw hv1 i1 i2 im hsp20 ls hl H locs hP hD hS
        refine lv_iload_n hx hb dX4_finishWeek_20 rfl (lv_at hl 0 rfl) ?_
        refine lv_aload_n hx hb dX4_finishWeek_21 rfl (lv_at hl 2 rfl) ?_
        refine va_get (D := D) (ci := 3) (C := RX4) (T := TX4) (N := 13) hx hb hts hi4 hown hK hP 0 wg_0 rfl 11 (by decide) wd2 (fun _ h9 => h9) rfl dX4_finishWeek_22 ?_
        refine lv_icmp_ge (tgt := 76) hx hb dX4_finishWeek_25 (by decide) (fun c25 => ?_) (fun c25 => ?_)
        · refine lv_aload_n hx hb dX4_finishWeek_76 rfl (lv_at hl 2 rfl) ?_
          refine lv_dup hx hb dX4_finishWeek_77 rfl ?_
          refine va_get (D := D) (ci := 3) (C := RX4) (T := TX4) (N := 13) hx hb hts hi4 hown hK hP 0 wg_0 rfl 12 (by decide) wd1 (fun _ h9 => h9) rfl dX4_finishWeek_78 ?_
          refine lv_iconst (v := 1) hx hb dX4_finishWeek_81 (by decide) ?_
          refine lv_iadd hx hb dX4_finishWeek_82 ?_
          refine my_put (D := D) (ci := 3) (C := RX4) (T := TX4) (N := 13) (ty := .int) hx hb hts hi4 tyX4 tyX4_ok nmX4 hown hK hP hD hS 0 wg_0 rfl 12 (by decide) wd1 (fun _ h9 => h9) rfl (by decide +kernel) rfl rfl (Nat.le_of_ble_eq_true rfl) (wg_f12 _) dX4_finishWeek_83 (fun H locs hP hD hS => ?_)
          refine lv_aload_n hx hb dX4_finishWeek_86 rfl (lv_at hl 2 rfl) ?_
          refine va_get (D := D) (ci := 3) (C := RX4) (T := TX4) (N := 13) hx hb hts hi4 hown hK hP 0 wg_0 rfl 12 (by decide) wd1 (fun _ h9 => h9) rfl dX4_finishWeek_87 ?_
          exact rw_ret (_, _) hx hb hr hP hD hS (Eq.trans hsp20 (Eq.trans (lp20_X4_finishWeek_s _ _ _ _ _) (Eq.trans (if_pos c25) (rfl)))) dX4_finishWeek_90 hlocks
        · have hv : vp_in v2 20 := cnin20 hsw i1 c25
          refine lv_iconst (v := 3) hx hb dX4_finishWeek_28 (by decide) ?_
          refine lv_aload_n hx hb dX4_finishWeek_29 rfl (lv_at hl 2 rfl) ?_
          refine lv_iload_n hx hb dX4_finishWeek_30 rfl (lv_at hl 0 rfl) ?_
          refine lv_iload_n hx hb dX4_finishWeek_31 rfl (lv_at hl 1 rfl) ?_
          refine roV CF (c_X4_demandOf l D cI cC cW t _ _ _ _ _ (by first | (with_reducible first | assumption | exact g20 (by assumption) (by assumption) | exact sl60 (by assumption) | exact pl60 (by assumption) | exact cg60 (by assumption) | exact sea4 (by assumption) | exact in3 (by assumption) | exact dm80 (by assumption) (by assumption) | exact s4 (by assumption)) | (with_reducible (repeat (refine sf_u (by omega) ?_)); assumption) | (simp (disch := omega) only [pk_un]; (with_reducible first | assumption | exact g20 (by assumption) (by assumption) | exact sl60 (by assumption) | exact pl60 (by assumption) | exact cg60 (by assumption) | exact sea4 (by assumption) | exact in3 (by assumption) | exact dm80 (by assumption) (by assumption) | exact s4 (by assumption))) | (unfold vp_in; decide)) (by first | (with_reducible first | assumption | exact g20 (by assumption) (by assumption) | exact sl60 (by assumption) | exact pl60 (by assumption) | exact cg60 (by assumption) | exact sea4 (by assumption) | exact in3 (by assumption) | exact dm80 (by assumption) (by assumption) | exact s4 (by assumption)) | (with_reducible (repeat (refine sf_u (by omega) ?_)); assumption) | (simp (disch := omega) only [pk_un]; (with_reducible first | assumption | exact g20 (by assumption) (by assumption) | exact sl60 (by assumption) | exact pl60 (by assumption) | exact cg60 (by assumption) | exact sea4 (by assumption) | exact in3 (by assumption) | exact dm80 (by assumption) (by assumption) | exact s4 (by assumption))) | (unfold vp_in; decide))) (cwV 2 hts gX4_finishWeek_X4_demandOf rfl rfl rfl (by decide +kernel) ⟨Nat.le_of_ble_eq_true rfl, Nat.le_of_ble_eq_true rfl⟩) hP hK hX hS 0 3 wg_0 rfl rfl hl.1 rfl (Nat.le_of_ble_eq_true rfl) dX4_finishWeek_32 ⟨Nat.zero_le _, Nat.zero_le _⟩ ?_
          refine lv_imul hx hb dX4_finishWeek_35 ?_
          refine lv_aload_n hx hb dX4_finishWeek_36 rfl (lv_at hl 2 rfl) ?_
          refine va_get (D := D) (ci := 3) (C := RX4) (T := TX4) (N := 13) hx hb hts hi4 hown hK hP 0 wg_0 rfl 6 (by decide) wd3 (fun _ h9 => h9) rfl dX4_finishWeek_37 ?_
          refine lv_iload_n hx hb dX4_finishWeek_40 rfl (lv_at hl 0 rfl) ?_
          refine va_iald hx hb hK hP 7 0 wg_7 rfl (by first | (with_reducible first | assumption | exact g20 (by assumption) (by assumption) | exact sl60 (by assumption) | exact pl60 (by assumption) | exact cg60 (by assumption) | exact sea4 (by assumption) | exact in3 (by assumption) | exact dm80 (by assumption) (by assumption) | exact s4 (by assumption)) | (with_reducible (repeat (refine sf_u (by omega) ?_)); assumption) | (simp (disch := omega) only [pk_un]; (with_reducible first | assumption | exact g20 (by assumption) (by assumption) | exact sl60 (by assumption) | exact pl60 (by assumption) | exact cg60 (by assumption) | exact sea4 (by assumption) | exact in3 (by assumption) | exact dm80 (by assumption) (by assumption) | exact s4 (by assumption))) | (unfold vp_in; decide)) dX4_finishWeek_41 ?_
          refine lv_iadd hx hb dX4_finishWeek_42 ?_
          refine lv_iconst (v := 4) hx hb dX4_finishWeek_43 (by decide) ?_
          refine lv_idiv hx hb dX4_finishWeek_44 (by decide) ?_
          refine lv_istore_n (lv' := [(3, .int _), (2, .int _), (1, .int _), (0, .ref _)]) hx hb dX4_finishWeek_45 rfl hl (by decide) rfl (fun ls hl => ?_)
          refine lv_aload_n hx hb dX4_finishWeek_46 rfl (lv_at hl 3 rfl) ?_
          refine va_get (D := D) (ci := 3) (C := RX4) (T := TX4) (N := 13) hx hb hts hi4 hown hK hP 0 wg_0 rfl 2 (by decide) wd4 (fun _ h9 => h9) rfl dX4_finishWeek_47 ?_
          refine lv_iload_n hx hb dX4_finishWeek_50 rfl (lv_at hl 1 rfl) ?_
          refine lv_iconst (v := 4) hx hb dX4_finishWeek_51 (by decide) ?_
          refine lv_imul hx hb dX4_finishWeek_52 ?_
          refine lv_iload_n hx hb dX4_finishWeek_53 rfl (lv_at hl 2 rfl) ?_
          refine lv_iadd hx hb dX4_finishWeek_54 ?_
          refine lv_iload_n hx hb dX4_finishWeek_55 rfl (lv_at hl 0 rfl) ?_
          refine lv_sipush (v := 999) hx hb dX4_finishWeek_56 (by decide) ?_
          refine va_mmin hx hb (hml.trans hl.1.symm) hown wd5 wd6 wd7 wd8 (Nat.le_of_ble_eq_true rfl) (Nat.le_of_ble_eq_true rfl) (Nat.zero_le _) (Nat.zero_le _) dX4_finishWeek_59 ?_
          refine my_iast hx hb hK hP hD hS 3 0 wg_3 rfl (wg_s3 _ _) (by first | (with_reducible first | assumption | exact g20 (by assumption) (by assumption) | exact sl60 (by assumption) | exact pl60 (by assumption) | exact cg60 (by assumption) | exact sea4 (by assumption) | exact in3 (by assumption) | exact dm80 (by assumption) (by assumption) | exact s4 (by assumption)) | (with_reducible (repeat (refine sf_u (by omega) ?_)); assumption) | (simp (disch := omega) only [pk_un]; (with_reducible first | assumption | exact g20 (by assumption) (by assumption) | exact sl60 (by assumption) | exact pl60 (by assumption) | exact cg60 (by assumption) | exact sea4 (by assumption) | exact in3 (by assumption) | exact dm80 (by assumption) (by assumption) | exact s4 (by assumption))) | (unfold vp_in; decide)) dX4_finishWeek_62 (fun H locs hP hD hS => ?_)
          refine lv_aload_n hx hb dX4_finishWeek_63 rfl (lv_at hl 3 rfl) ?_
          refine va_get (D := D) (ci := 3) (C := RX4) (T := TX4) (N := 13) hx hb hts hi4 hown hK hP 0 wg_0 rfl 6 (by decide) wd3 (fun _ h9 => h9) rfl dX4_finishWeek_64 ?_
          refine lv_iload_n hx hb dX4_finishWeek_67 rfl (lv_at hl 1 rfl) ?_
          refine lv_iconst (v := 0) hx hb dX4_finishWeek_68 (by decide) ?_
          refine my_iast hx hb hK hP hD hS 7 0 wg_7 rfl (wg_s7 _ _) (by first | (with_reducible first | assumption | exact g20 (by assumption) (by assumption) | exact sl60 (by assumption) | exact pl60 (by assumption) | exact cg60 (by assumption) | exact sea4 (by assumption) | exact in3 (by assumption) | exact dm80 (by assumption) (by assumption) | exact s4 (by assumption)) | (with_reducible (repeat (refine sf_u (by omega) ?_)); assumption) | (simp (disch := omega) only [pk_un]; (with_reducible first | assumption | exact g20 (by assumption) (by assumption) | exact sl60 (by assumption) | exact pl60 (by assumption) | exact cg60 (by assumption) | exact sea4 (by assumption) | exact in3 (by assumption) | exact dm80 (by assumption) (by assumption) | exact s4 (by assumption))) | (unfold vp_in; decide)) dX4_finishWeek_69 (fun H locs hP hD hS => ?_)
          refine lv_iinc (v := _ + (1 : Int32)) (lv' := [(2, .int _), (3, .int _), (1, .int _), (0, .ref _)]) hx hb dX4_finishWeek_70 hl (k := 1) rfl rfl (by decide) rfl (fun ls hl => ?_)
          refine lv_goto (tgt := 20) hx hb dX4_finishWeek_73 (by decide) ?_
          exact ih20 _ _ _ (sf_u (by omega) (sf_u (by omega) hsw)) (hv1) (cs1 i1 c25) (by simp (disch := omega) only [pk_un]; exact cs2 c25) (by simp (disch := omega) only [pk_un]; exact csm c25 im) (Eq.trans hsp20 (Eq.trans (lp20_X4_finishWeek_s _ _ _ _ _) (Eq.trans (if_neg c25) (rfl)))) _ (lv_sub hl [0, 2, 3] rfl) _ _ hP hD hS
    exact L20 21 _ _ _ (hsf) (s4 hsf) (by decide) (cn2 hsf) (cnm hsf) (Eq.trans (if_pos c7) (rfl)) _ (lv_sub hl [0, 1, 2] rfl) _ _ hP hD hS
  · refine lv_bipush (v := -3) hx hb dX4_finishWeek_10 (by decide) ?_
    exact rw_ret (_, _) hx hb hr hP hD hS (Eq.trans (if_neg c7) (rfl)) dX4_finishWeek_12 hlocks
