/-! the model: best (printed by wip/whole/m15.py) -/
def sp_X6_best (N : Nat → Int32) (Z : Nat → Nat → Int32) (x1 : Int32) : Int32 × ((Nat → Int32) × (Nat → Nat → Int32)) :=
  if (sp_X6_in x1 (0 : Int32) (2 : Int32)) = 0 then (((-1 : Int32), (N, Z))) else (let k12_1 : Nat → Nat → Int32 := sp_X6_finds N Z; if (k12_1 0 4) = 0 then (((-4 : Int32), (N, k12_1))) else (if x1 = 0 then (((k12_1 0 2), (N, k12_1))) else (if x1 = (1 : Int32) then (((k12_1 0 3), (N, k12_1))) else (((k12_1 0 4), (N, k12_1))))))
set_option maxHeartbeats 4000000 in
set_option maxRecDepth 100000 in
theorem c_X6_best (l : Launch) (D : va_G) (cI cC cW : ClassId) (t : Nat → Nat) (a : Nat → Nat) (sz : Nat) (N : Nat → Int32) (Z : Nat → Nat → Int32) (x1 : Int32) (hsf : sfN N) : Met l yX6_best wsX6_best ({ frames := 5, cells := 0, slots := 0, locals := 114 }) (va_Pc [.ref (a 0), .int x1] (rwP D (tyL cI cC cW) (md cI a N Z) t sz)) (va_Qi (fun (r : Int32) (u : ((Nat → Int32) × (Nat → Nat → Int32))) => (r, u) = sp_X6_best N Z x1) (fun u => rwB D (va_A (md cI a N Z) sz) (md cI a u.1 u.2)) (va_A (md cI a N Z) sz)) 0 0 (va_A (md cI a N Z) sz) := by
  refine Met.ofW (cc := cX6_best) (maxL := 2) (ret := (some .int)) (by decide) rfl ?_
  intro p e s m args below meth c s₁ B hml hv
  obtain ⟨rfl, hsz, hP, hK, hD0, hX⟩ := hv
  have hx := B.exec
  have hb := B.bytes
  have hr := B.returns
  have hts := atoms_spec (ws := wsX6_best) B.pre
  have hown : s.vm.findClass RX6 = some m.cls := findClass_of_methodNamed B.named
  have hlocks := B.notSynchronized
  subst hsz
  have hD := hD0.self (sz := s.heap.size)
  generalize hAe : va_A (md cI a N Z) s.heap.size = A at hD hX ⊢
  have hA : ∀ q : Nat, s.heap.size ≤ q → A q := fun q h => by rw [← hAe]; exact Or.inr h
  have hS : va_S A s.heap s.heap [] := va_S.rf
  have wd1 : (Cond.fieldLink RX6 137 "PickSlotsModel" "bestWorth" "I").before [.ref (a 0), .int x1].toArray s = true := hts _ (List.mem_of_getElem? (i := 1) rfl)
  have wd3 : (Cond.fieldLink RX6 143 "PickSlotsModel" "bestSlot" "I").before [.ref (a 0), .int x1].toArray s = true := hts _ (List.mem_of_getElem? (i := 3) rfl)
  have wd2 : (Cond.fieldLink RX6 140 "PickSlotsModel" "bestGood" "I").before [.ref (a 0), .int x1].toArray s = true := hts _ (List.mem_of_getElem? (i := 2) rfl)
  have hi6 : ∀ w ∈ wsX60, w ∈ wsX6_best := fun w h => List.mem_cons_of_mem _ (List.mem_append_right _ (h))
  have CF : CallFix p m c cX6_best 2 s [.ref (a 0), .int x1].toArray wsX6_best RX6 := ⟨hx, hb, hml, hown, hts⟩
  have hl := lv_entry ([.ref (a 0), .int x1]) (n := 2) (Nat.le_of_ble_eq_true rfl)
  rw [lg_entry_eq]
  generalize (lg_sl ([.ref (a 0), .int x1]) ++ List.replicate (2 - (lg_sl ([.ref (a 0), .int x1])).length) Slot.unset).toArray = ls at hl ⊢
  have hl : lv_has ls 2 [(0, .ref (a 0)), (1, .int x1)] := hl
  refine lv_iload_n hx hb dX6_best_0 rfl (lv_at hl 1 rfl) ?_
  refine lv_iconst (v := 0) hx hb dX6_best_1 (by decide) ?_
  refine lv_iconst (v := 2) hx hb dX6_best_2 (by decide) ?_
  refine roS CF (c_X6_in l D cI cC cW t _ _ _ ) (va_cwS 3 hts gX6_best_X6_in rfl rfl rfl (by decide +kernel) ⟨Nat.le_of_ble_eq_true rfl, Nat.le_of_ble_eq_true rfl⟩) vP_nil hK hX hS rfl hl.1 rfl (Nat.le_of_ble_eq_true rfl) dX6_best_3 ⟨Nat.zero_le _, Nat.zero_le _⟩ ?_
  refine lv_if_ne (tgt := 11) hx hb dX6_best_6 (by decide) (fun c6 => ?_) (fun c6 => ?_)
  · refine lv_aload_n hx hb dX6_best_11 rfl (lv_at hl 0 rfl) ?_
    refine rwVv CF (c_X6_finds l D cI cC cW t _ _ _ _  (by first | (with_reducible first | assumption | exact m20 (by assumption) (by assumption) | exact ga20 (by assumption) (by assumption) | exact w2 (by assumption) | exact w2 (min4 (by assumption)) | exact w2 (s46 (by assumption)) | exact min4 (by assumption) | exact s46 (by assumption) | exact min11 (by assumption) (by assumption)) | (unfold vp_in; decide) | ((with_reducible (repeat (first | assumption | (refine sf_lays ?_ ?_ ?_; (with_reducible first | assumption | exact m20 (by assumption) (by assumption) | exact ga20 (by assumption) (by assumption)); (with_reducible first | exact v11_0 | exact v11_1 | exact v11_6 | exact v11_7 | exact v11_8 | exact v11_9 | exact v11_10 | exact w2 (by assumption) | exact w2 (min4 (by assumption)))) | (refine sf_adds ?_ ?_; (with_reducible first | exact v8_0 | exact v8_1 | exact v8_2 | exact v8_3 | exact v8_4 | exact v8_5 | exact v8_6 | exact v8_7)) | (refine sf_u (by omega) ?_)))); done))) (cwV 0 hts gX6_best_X6_finds rfl rfl rfl (by decide +kernel) ⟨Nat.le_of_ble_eq_true rfl, Nat.le_of_ble_eq_true rfl⟩) hP hD hK hX hS hA 0 5 md_0 rfl rfl hl.1 rfl (Nat.le_of_ble_eq_true rfl) dX6_best_12 ⟨Nat.zero_le _, Nat.zero_le _⟩ (fun H locs hP hD hS => ?_)
    refine lv_aload_n hx hb dX6_best_15 rfl (lv_at hl 0 rfl) ?_
    refine va_get (D := D) (ci := 5) (C := RX6) (T := TX6) (N := 17) hx hb hts hi6 hown hK hP 0 md_0 rfl 8 (by decide) wd1 (fun _ h9 => h9) rfl dX6_best_16 ?_
    refine lv_if_ne (tgt := 27) hx hb dX6_best_19 (by decide) (fun c19 => ?_) (fun c19 => ?_)
    · refine lv_iload_n hx hb dX6_best_27 rfl (lv_at hl 1 rfl) ?_
      refine lv_if_ne (tgt := 38) hx hb dX6_best_28 (by decide) (fun c28 => ?_) (fun c28 => ?_)
      · refine lv_iload_n hx hb dX6_best_38 rfl (lv_at hl 1 rfl) ?_
        refine lv_iconst (v := 1) hx hb dX6_best_39 (by decide) ?_
        refine lv_icmp_ne (tgt := 50) hx hb dX6_best_40 (by decide) (fun c40 => ?_) (fun c40 => ?_)
        · refine lv_aload_n hx hb dX6_best_50 rfl (lv_at hl 0 rfl) ?_
          refine va_get (D := D) (ci := 5) (C := RX6) (T := TX6) (N := 17) hx hb hts hi6 hown hK hP 0 md_0 rfl 8 (by decide) wd1 (fun _ h9 => h9) rfl dX6_best_51 ?_
          exact rwM_ret hx hb hr hP hD hS (Eq.trans (if_neg c6) (Eq.trans (if_neg c19) (Eq.trans (if_neg c28) (Eq.trans (if_neg c40) (rfl))))) dX6_best_54 hlocks
        · refine lv_aload_n hx hb dX6_best_43 rfl (lv_at hl 0 rfl) ?_
          refine va_get (D := D) (ci := 5) (C := RX6) (T := TX6) (N := 17) hx hb hts hi6 hown hK hP 0 md_0 rfl 7 (by decide) wd3 (fun _ h9 => h9) rfl dX6_best_44 ?_
          refine lv_goto (tgt := 54) hx hb dX6_best_47 (by decide) ?_
          exact rwM_ret hx hb hr hP hD hS (Eq.trans (if_neg c6) (Eq.trans (if_neg c19) (Eq.trans (if_neg c28) (Eq.trans (if_pos c40) (rfl))))) dX6_best_54 hlocks
      · refine lv_aload_n hx hb dX6_best_31 rfl (lv_at hl 0 rfl) ?_
        refine va_get (D := D) (ci := 5) (C := RX6) (T := TX6) (N := 17) hx hb hts hi6 hown hK hP 0 md_0 rfl 6 (by decide) wd2 (fun _ h9 => h9) rfl dX6_best_32 ?_
        refine lv_goto (tgt := 54) hx hb dX6_best_35 (by decide) ?_
        exact rwM_ret hx hb hr hP hD hS (Eq.trans (if_neg c6) (Eq.trans (if_neg c19) (Eq.trans (if_pos c28) (rfl)))) dX6_best_54 hlocks
    · refine lv_bipush (v := -4) hx hb dX6_best_22 (by decide) ?_
      refine lv_goto (tgt := 54) hx hb dX6_best_24 (by decide) ?_
      exact rwM_ret hx hb hr hP hD hS (Eq.trans (if_neg c6) (Eq.trans (if_pos c19) (rfl))) dX6_best_54 hlocks
  · refine lv_iconst (v := -1) hx hb dX6_best_9 (by decide) ?_
    exact rwM_ret hx hb hr hP hD hS (Eq.trans (if_pos c6) (rfl)) dX6_best_10 hlocks
