/-! the model: goods, picks, moves (printed by wip/whole/m5.py) -/
def sp_X6_mayBe (N : Nat → Int32) (Z : Nat → Nat → Int32) (x1 x2 : Int32) : Int32 :=
  if (sp_X6_most (x2 - x2 / (6 : Int32) * (6 : Int32))) < (sp_X6_of N Z x1 (0 : Int32)) then ((0 : Int32)) else ((1 : Int32))
set_option maxHeartbeats 4000000 in
set_option maxRecDepth 100000 in
theorem c_X6_mayBe (l : Launch) (D : va_G) (cI cC cW : ClassId) (t : Nat → Nat) (a : Nat → Nat) (N : Nat → Int32) (Z : Nat → Nat → Int32) (x1 x2 : Int32) (h1 : vp_in x1 20) : Met l yX6_mayBe wsX6_mayBe ({ frames := 1, cells := 0, slots := 0, locals := 22 }) (va_Pc [.ref (a 0), .int x1, .int x2] (roP D (tyL cI cC cW) (md cI a N Z) t)) (vp_Si (fun r => r = sp_X6_mayBe N Z x1 x2)) 0 0 (fun _ => False) := by
  refine Met.ofW (cc := cX6_mayBe) (maxL := 3) (ret := (some .boolean)) (by decide) rfl ?_
  intro p e s m args below meth c s₁ B hml hv
  obtain ⟨rfl, hP, hK, hX⟩ := hv
  have hx := B.exec
  have hb := B.bytes
  have hr := B.returns
  have hts := atoms_spec (ws := wsX6_mayBe) B.pre
  have hown : s.vm.findClass RX6 = some m.cls := findClass_of_methodNamed B.named
  have hlocks := B.notSynchronized
  have hS : va_S (fun _ => False) s.heap s.heap [] := va_S.rf
  have CF : CallFix p m c cX6_mayBe 3 s [.ref (a 0), .int x1, .int x2].toArray wsX6_mayBe RX6 := ⟨hx, hb, hml, hown, hts⟩
  have hl := lv_entry ([.ref (a 0), .int x1, .int x2]) (n := 3) (Nat.le_of_ble_eq_true rfl)
  rw [lg_entry_eq]
  generalize (lg_sl ([.ref (a 0), .int x1, .int x2]) ++ List.replicate (3 - (lg_sl ([.ref (a 0), .int x1, .int x2])).length) Slot.unset).toArray = ls at hl ⊢
  have hl : lv_has ls 3 [(0, .ref (a 0)), (1, .int x1), (2, .int x2)] := hl
  refine lv_aload_n hx hb dX6_mayBe_0 rfl (lv_at hl 0 rfl) ?_
  refine lv_iload_n hx hb dX6_mayBe_1 rfl (lv_at hl 1 rfl) ?_
  refine lv_iconst (v := 0) hx hb dX6_mayBe_2 (by decide) ?_
  refine roV CF (c_X6_of l D cI cC cW t _ _ _ _ _ (by first | (with_reducible first | assumption | exact m20 (by assumption) (by assumption) | exact ga20 (by assumption) (by assumption) | exact w2 (by assumption) | exact w2 (min4 (by assumption)) | exact w2 (s46 (by assumption)) | exact min4 (by assumption) | exact s46 (by assumption) | exact min11 (by assumption) (by assumption)) | (unfold vp_in; decide) | ((with_reducible (repeat (first | assumption | (refine sf_lays ?_ ?_ ?_; (with_reducible first | assumption | exact m20 (by assumption) (by assumption) | exact ga20 (by assumption) (by assumption)); (with_reducible first | exact v11_0 | exact v11_1 | exact v11_6 | exact v11_7 | exact v11_8 | exact v11_9 | exact v11_10 | exact w2 (by assumption) | exact w2 (min4 (by assumption)))) | (refine sf_adds ?_ ?_; (with_reducible first | exact v8_0 | exact v8_1 | exact v8_2 | exact v8_3 | exact v8_4 | exact v8_5 | exact v8_6 | exact v8_7)) | (refine sf_u (by omega) ?_)))); done)) (by first | (with_reducible first | assumption | exact m20 (by assumption) (by assumption) | exact ga20 (by assumption) (by assumption) | exact w2 (by assumption) | exact w2 (min4 (by assumption)) | exact w2 (s46 (by assumption)) | exact min4 (by assumption) | exact s46 (by assumption) | exact min11 (by assumption) (by assumption)) | (unfold vp_in; decide) | ((with_reducible (repeat (first | assumption | (refine sf_lays ?_ ?_ ?_; (with_reducible first | assumption | exact m20 (by assumption) (by assumption) | exact ga20 (by assumption) (by assumption)); (with_reducible first | exact v11_0 | exact v11_1 | exact v11_6 | exact v11_7 | exact v11_8 | exact v11_9 | exact v11_10 | exact w2 (by assumption) | exact w2 (min4 (by assumption)))) | (refine sf_adds ?_ ?_; (with_reducible first | exact v8_0 | exact v8_1 | exact v8_2 | exact v8_3 | exact v8_4 | exact v8_5 | exact v8_6 | exact v8_7)) | (refine sf_u (by omega) ?_)))); done))) (cwV 2 hts gX6_mayBe_X6_of rfl rfl rfl (by decide +kernel) ⟨Nat.le_of_ble_eq_true rfl, Nat.le_of_ble_eq_true rfl⟩) hP hK hX hS 0 5 md_0 rfl rfl hl.1 rfl (Nat.le_of_ble_eq_true rfl) dX6_mayBe_3 ⟨Nat.zero_le _, Nat.zero_le _⟩ ?_
  refine lv_iload_n hx hb dX6_mayBe_6 rfl (lv_at hl 2 rfl) ?_
  refine lv_bipush (v := 6) hx hb dX6_mayBe_7 (by decide) ?_
  refine lv_irem hx hb dX6_mayBe_9 (by first | assumption | decide) ?_
  refine roS CF (c_X6_most l D cI cC cW t _ ) (va_cwS 1 hts gX6_mayBe_X6_most rfl rfl rfl (by decide +kernel) ⟨Nat.le_of_ble_eq_true rfl, Nat.le_of_ble_eq_true rfl⟩) vP_nil hK hX hS rfl hl.1 rfl (Nat.le_of_ble_eq_true rfl) dX6_mayBe_10 ⟨Nat.zero_le _, Nat.zero_le _⟩ ?_
  refine lv_icmp_gt (tgt := 20) hx hb dX6_mayBe_13 (by decide) (fun c13 => ?_) (fun c13 => ?_)
  · refine lv_iconst (v := 0) hx hb dX6_mayBe_20 (by decide) ?_
    exact ro_zret hx hb hr (rfl) (Eq.trans (if_pos c13) (rfl)) dX6_mayBe_21 hlocks
  · refine lv_iconst (v := 1) hx hb dX6_mayBe_16 (by decide) ?_
    refine lv_goto (tgt := 21) hx hb dX6_mayBe_17 (by decide) ?_
    exact ro_zret hx hb hr (rfl) (Eq.trans (if_neg c13) (rfl)) dX6_mayBe_21 hlocks
theorem zb_X6_mayBe {N : Nat → Int32} {Z : Nat → Nat → Int32} {x1 x2 : Int32} : narrow .boolean (.int (sp_X6_mayBe N Z x1 x2)) = .int (sp_X6_mayBe N Z x1 x2) := by
  unfold sp_X6_mayBe
  (repeat' split) <;> first | rfl

def lp4_X6_weeklyOf (N : Nat → Int32) (Z : Nat → Nat → Int32) (x1 : Int32) : Nat → Int32 → Int32 → Int32
  | 0, v2, v3 => 0
  | n + 1, v2, v3 => if (N 0) ≤ v3 then (v2) else (if (sp_X6_of N Z v3 (6 : Int32)) = (-1 : Int32) then (lp4_X6_weeklyOf N Z x1 n (v2 + (0 : Int32)) (v3 + (1 : Int32)) ) else (lp4_X6_weeklyOf N Z x1 n (v2 + ((sp_X6_of N Z v3 ((2 : Int32) + x1)) * (sp_X6_walk (sp_X6_of N Z v3 (6 : Int32))))) (v3 + (1 : Int32)) ))
theorem lp4_X6_weeklyOf_s (N : Nat → Int32) (Z : Nat → Nat → Int32) (x1 : Int32) (n : Nat) (v2 : Int32) (v3 : Int32)  : lp4_X6_weeklyOf N Z x1 (n + 1) v2 v3 = if (N 0) ≤ v3 then (v2) else (if (sp_X6_of N Z v3 (6 : Int32)) = (-1 : Int32) then (lp4_X6_weeklyOf N Z x1 n (v2 + (0 : Int32)) (v3 + (1 : Int32)) ) else (lp4_X6_weeklyOf N Z x1 n (v2 + ((sp_X6_of N Z v3 ((2 : Int32) + x1)) * (sp_X6_walk (sp_X6_of N Z v3 (6 : Int32))))) (v3 + (1 : Int32)) )) := rfl
def sp_X6_weeklyOf (N : Nat → Int32) (Z : Nat → Nat → Int32) (x1 : Int32) : Int32 :=
  lp4_X6_weeklyOf N Z x1 21 (0 : Int32) (0 : Int32) 
set_option maxHeartbeats 4000000 in
set_option maxRecDepth 100000 in
theorem c_X6_weeklyOf (l : Launch) (D : va_G) (cI cC cW : ClassId) (t : Nat → Nat) (a : Nat → Nat) (N : Nat → Int32) (Z : Nat → Nat → Int32) (x1 : Int32) (hsf : sfN N) (h1 : vp_in x1 4) : Met l yX6_weeklyOf wsX6_weeklyOf ({ frames := 2, cells := 0, slots := 0, locals := 41 }) (va_Pc [.ref (a 0), .int x1] (roP D (tyL cI cC cW) (md cI a N Z) t)) (vp_Si (fun r => r = sp_X6_weeklyOf N Z x1)) 0 0 (fun _ => False) := by
  refine Met.ofW (cc := cX6_weeklyOf) (maxL := 4) (ret := (some .int)) (by decide) rfl ?_
  intro p e s m args below meth c s₁ B hml hv
  obtain ⟨rfl, hP, hK, hX⟩ := hv
  have hx := B.exec
  have hb := B.bytes
  have hr := B.returns
  have hts := atoms_spec (ws := wsX6_weeklyOf) B.pre
  have hown : s.vm.findClass RX6 = some m.cls := findClass_of_methodNamed B.named
  have hlocks := B.notSynchronized
  have hS : va_S (fun _ => False) s.heap s.heap [] := va_S.rf
  have wd1 : (Cond.fieldLink RX6 7 "PickSlotsModel" "now" "[I").before [.ref (a 0), .int x1].toArray s = true := hts _ (List.mem_of_getElem? (i := 1) rfl)
  have hi6 : ∀ w ∈ wsX60, w ∈ wsX6_weeklyOf := fun w h => List.mem_cons_of_mem _ (List.mem_append_right _ (h))
  have CF : CallFix p m c cX6_weeklyOf 4 s [.ref (a 0), .int x1].toArray wsX6_weeklyOf RX6 := ⟨hx, hb, hml, hown, hts⟩
  have hl := lv_entry ([.ref (a 0), .int x1]) (n := 4) (Nat.le_of_ble_eq_true rfl)
  rw [lg_entry_eq]
  generalize (lg_sl ([.ref (a 0), .int x1]) ++ List.replicate (4 - (lg_sl ([.ref (a 0), .int x1])).length) Slot.unset).toArray = ls at hl ⊢
  have hl : lv_has ls 4 [(0, .ref (a 0)), (1, .int x1)] := hl
  refine lv_iconst (v := 0) hx hb dX6_weeklyOf_0 (by decide) ?_
  refine lv_istore_n (lv' := [(2, .int _), (0, .ref _), (1, .int _)]) hx hb dX6_weeklyOf_1 rfl hl (by decide) rfl (fun ls hl => ?_)
  refine lv_iconst (v := 0) hx hb dX6_weeklyOf_2 (by decide) ?_
  refine lv_istore_n (lv' := [(3, .int _), (2, .int _), (0, .ref _), (1, .int _)]) hx hb dX6_weeklyOf_3 rfl hl (by decide) rfl (fun ls hl => ?_)
  have L4 : ∀ (n4 : Nat) (v2 v3 : Int32), (0 ≤ v3.toInt) → (v3.toInt ≤ (N 0).toInt) → ((N 0).toInt - v3.toInt < (n4 : Int)) → sp_X6_weeklyOf N Z x1 = lp4_X6_weeklyOf N Z x1 (n4) v2 v3  → ∀ (ls : Array Slot), lv_has ls 4 [(2, .int v2), (3, .int v3), (0, .ref (a 0)), (1, .int x1)] → W p l e (headSpec wsX6_weeklyOf ({ frames := 2, cells := 0, slots := 0, locals := 41 } : Room)).room s m [.ref (a 0), .int x1].toArray below meth c s.heap [] 0 0 (MQ below (vp_Si (fun r => r = sp_X6_weeklyOf N Z x1)) [.ref (a 0), .int x1].toArray s 0 0 (fun _ => False)) (F0 m 4 ls []) := by
    intro n4
    induction n4 with
    | zero => intro v2 v3  i1 i2 im; exfalso; omega
    | succ n4 ih4 =>
      intro v2 v3  i1 i2 im hsp4 ls hl
      refine lv_iload_n hx hb dX6_weeklyOf_4 rfl (lv_at hl 1 rfl) ?_
      refine lv_aload_n hx hb dX6_weeklyOf_5 rfl (lv_at hl 2 rfl) ?_
      refine va_get (D := D) (ci := 5) (C := RX6) (T := TX6) (N := 17) hx hb hts hi6 hown hK hP 0 md_0 rfl 0 (by decide) wd1 (fun _ h9 => h9) rfl dX6_weeklyOf_6 ?_
      refine lv_iconst (v := 0) hx hb dX6_weeklyOf_9 (by decide) ?_
      refine my_ialdK (k := 0) hx hb hK hP 1 0 md_1 rfl (by decide) (by first | (with_reducible first | assumption | exact m20 (by assumption) (by assumption) | exact ga20 (by assumption) (by assumption) | exact w2 (by assumption) | exact w2 (min4 (by assumption)) | exact w2 (s46 (by assumption)) | exact min4 (by assumption) | exact s46 (by assumption) | exact min11 (by assumption) (by assumption)) | (unfold vp_in; decide) | ((with_reducible (repeat (first | assumption | (refine sf_lays ?_ ?_ ?_; (with_reducible first | assumption | exact m20 (by assumption) (by assumption) | exact ga20 (by assumption) (by assumption)); (with_reducible first | exact v11_0 | exact v11_1 | exact v11_6 | exact v11_7 | exact v11_8 | exact v11_9 | exact v11_10 | exact w2 (by assumption) | exact w2 (min4 (by assumption)))) | (refine sf_adds ?_ ?_; (with_reducible first | exact v8_0 | exact v8_1 | exact v8_2 | exact v8_3 | exact v8_4 | exact v8_5 | exact v8_6 | exact v8_7)) | (refine sf_u (by omega) ?_)))); done)) dX6_weeklyOf_10 ?_
      refine lv_icmp_ge (tgt := 57) hx hb dX6_weeklyOf_11 (by decide) (fun c11 => ?_) (fun c11 => ?_)
      · refine lv_iload_n hx hb dX6_weeklyOf_57 rfl (lv_at hl 0 rfl) ?_
        exact ro_ret hx hb hr (Eq.trans hsp4 (Eq.trans (lp4_X6_weeklyOf_s _ _ _ _ _ _) (Eq.trans (if_pos c11) (rfl)))) dX6_weeklyOf_58 hlocks
      · have hv : vp_in v3 20 := cnin20 hsf i1 c11
        refine lv_iload_n hx hb dX6_weeklyOf_14 rfl (lv_at hl 0 rfl) ?_
        refine lv_aload_n hx hb dX6_weeklyOf_15 rfl (lv_at hl 2 rfl) ?_
        refine lv_iload_n hx hb dX6_weeklyOf_16 rfl (lv_at hl 1 rfl) ?_
        refine lv_bipush (v := 6) hx hb dX6_weeklyOf_17 (by decide) ?_
        refine roV CF (c_X6_of l D cI cC cW t _ _ _ _ _ (by first | (with_reducible first | assumption | exact m20 (by assumption) (by assumption) | exact ga20 (by assumption) (by assumption) | exact w2 (by assumption) | exact w2 (min4 (by assumption)) | exact w2 (s46 (by assumption)) | exact min4 (by assumption) | exact s46 (by assumption) | exact min11 (by assumption) (by assumption)) | (unfold vp_in; decide) | ((with_reducible (repeat (first | assumption | (refine sf_lays ?_ ?_ ?_; (with_reducible first | assumption | exact m20 (by assumption) (by assumption) | exact ga20 (by assumption) (by assumption)); (with_reducible first | exact v11_0 | exact v11_1 | exact v11_6 | exact v11_7 | exact v11_8 | exact v11_9 | exact v11_10 | exact w2 (by assumption) | exact w2 (min4 (by assumption)))) | (refine sf_adds ?_ ?_; (with_reducible first | exact v8_0 | exact v8_1 | exact v8_2 | exact v8_3 | exact v8_4 | exact v8_5 | exact v8_6 | exact v8_7)) | (refine sf_u (by omega) ?_)))); done)) (by first | (with_reducible first | assumption | exact m20 (by assumption) (by assumption) | exact ga20 (by assumption) (by assumption) | exact w2 (by assumption) | exact w2 (min4 (by assumption)) | exact w2 (s46 (by assumption)) | exact min4 (by assumption) | exact s46 (by assumption) | exact min11 (by assumption) (by assumption)) | (unfold vp_in; decide) | ((with_reducible (repeat (first | assumption | (refine sf_lays ?_ ?_ ?_; (with_reducible first | assumption | exact m20 (by assumption) (by assumption) | exact ga20 (by assumption) (by assumption)); (with_reducible first | exact v11_0 | exact v11_1 | exact v11_6 | exact v11_7 | exact v11_8 | exact v11_9 | exact v11_10 | exact w2 (by assumption) | exact w2 (min4 (by assumption)))) | (refine sf_adds ?_ ?_; (with_reducible first | exact v8_0 | exact v8_1 | exact v8_2 | exact v8_3 | exact v8_4 | exact v8_5 | exact v8_6 | exact v8_7)) | (refine sf_u (by omega) ?_)))); done))) (cwV 2 hts gX6_weeklyOf_X6_of rfl rfl rfl (by decide +kernel) ⟨Nat.le_of_ble_eq_true rfl, Nat.le_of_ble_eq_true rfl⟩) hP hK hX hS 0 5 md_0 rfl rfl hl.1 rfl (Nat.le_of_ble_eq_true rfl) dX6_weeklyOf_19 ⟨Nat.zero_le _, Nat.zero_le _⟩ ?_
        refine lv_iconst (v := -1) hx hb dX6_weeklyOf_22 (by decide) ?_
        refine lv_icmp_ne (tgt := 30) hx hb dX6_weeklyOf_23 (by decide) (fun c23 => ?_) (fun c23 => ?_)
        · refine lv_aload_n hx hb dX6_weeklyOf_30 rfl (lv_at hl 2 rfl) ?_
          refine lv_iload_n hx hb dX6_weeklyOf_31 rfl (lv_at hl 1 rfl) ?_
          refine lv_iconst (v := 2) hx hb dX6_weeklyOf_32 (by decide) ?_
          refine lv_iload_n hx hb dX6_weeklyOf_33 rfl (lv_at hl 3 rfl) ?_
          refine lv_iadd hx hb dX6_weeklyOf_34 ?_
          refine roV CF (c_X6_of l D cI cC cW t _ _ _ _ _ (by first | (with_reducible first | assumption | exact m20 (by assumption) (by assumption) | exact ga20 (by assumption) (by assumption) | exact w2 (by assumption) | exact w2 (min4 (by assumption)) | exact w2 (s46 (by assumption)) | exact min4 (by assumption) | exact s46 (by assumption) | exact min11 (by assumption) (by assumption)) | (unfold vp_in; decide) | ((with_reducible (repeat (first | assumption | (refine sf_lays ?_ ?_ ?_; (with_reducible first | assumption | exact m20 (by assumption) (by assumption) | exact ga20 (by assumption) (by assumption)); (with_reducible first | exact v11_0 | exact v11_1 | exact v11_6 | exact v11_7 | exact v11_8 | exact v11_9 | exact v11_10 | exact w2 (by assumption) | exact w2 (min4 (by assumption)))) | (refine sf_adds ?_ ?_; (with_reducible first | exact v8_0 | exact v8_1 | exact v8_2 | exact v8_3 | exact v8_4 | exact v8_5 | exact v8_6 | exact v8_7)) | (refine sf_u (by omega) ?_)))); done)) (by first | (with_reducible first | assumption | exact m20 (by assumption) (by assumption) | exact ga20 (by assumption) (by assumption) | exact w2 (by assumption) | exact w2 (min4 (by assumption)) | exact w2 (s46 (by assumption)) | exact min4 (by assumption) | exact s46 (by assumption) | exact min11 (by assumption) (by assumption)) | (unfold vp_in; decide) | ((with_reducible (repeat (first | assumption | (refine sf_lays ?_ ?_ ?_; (with_reducible first | assumption | exact m20 (by assumption) (by assumption) | exact ga20 (by assumption) (by assumption)); (with_reducible first | exact v11_0 | exact v11_1 | exact v11_6 | exact v11_7 | exact v11_8 | exact v11_9 | exact v11_10 | exact w2 (by assumption) | exact w2 (min4 (by assumption)))) | (refine sf_adds ?_ ?_; (with_reducible first | exact v8_0 | exact v8_1 | exact v8_2 | exact v8_3 | exact v8_4 | exact v8_5 | exact v8_6 | exact v8_7)) | (refine sf_u (by omega) ?_)))); done))) (cwV 2 hts gX6_weeklyOf_X6_of rfl rfl rfl (by decide +kernel) ⟨Nat.le_of_ble_eq_true rfl, Nat.le_of_ble_eq_true rfl⟩) hP hK hX hS 0 5 md_0 rfl rfl hl.1 rfl (Nat.le_of_ble_eq_true rfl) dX6_weeklyOf_35 ⟨Nat.zero_le _, Nat.zero_le _⟩ ?_
          refine lv_aload_n hx hb dX6_weeklyOf_38 rfl (lv_at hl 2 rfl) ?_
          refine lv_iload_n hx hb dX6_weeklyOf_39 rfl (lv_at hl 1 rfl) ?_
          refine lv_bipush (v := 6) hx hb dX6_weeklyOf_40 (by decide) ?_
          refine roV CF (c_X6_of l D cI cC cW t _ _ _ _ _ (by first | (with_reducible first | assumption | exact m20 (by assumption) (by assumption) | exact ga20 (by assumption) (by assumption) | exact w2 (by assumption) | exact w2 (min4 (by assumption)) | exact w2 (s46 (by assumption)) | exact min4 (by assumption) | exact s46 (by assumption) | exact min11 (by assumption) (by assumption)) | (unfold vp_in; decide) | ((with_reducible (repeat (first | assumption | (refine sf_lays ?_ ?_ ?_; (with_reducible first | assumption | exact m20 (by assumption) (by assumption) | exact ga20 (by assumption) (by assumption)); (with_reducible first | exact v11_0 | exact v11_1 | exact v11_6 | exact v11_7 | exact v11_8 | exact v11_9 | exact v11_10 | exact w2 (by assumption) | exact w2 (min4 (by assumption)))) | (refine sf_adds ?_ ?_; (with_reducible first | exact v8_0 | exact v8_1 | exact v8_2 | exact v8_3 | exact v8_4 | exact v8_5 | exact v8_6 | exact v8_7)) | (refine sf_u (by omega) ?_)))); done)) (by first | (with_reducible first | assumption | exact m20 (by assumption) (by assumption) | exact ga20 (by assumption) (by assumption) | exact w2 (by assumption) | exact w2 (min4 (by assumption)) | exact w2 (s46 (by assumption)) | exact min4 (by assumption) | exact s46 (by assumption) | exact min11 (by assumption) (by assumption)) | (unfold vp_in; decide) | ((with_reducible (repeat (first | assumption | (refine sf_lays ?_ ?_ ?_; (with_reducible first | assumption | exact m20 (by assumption) (by assumption) | exact ga20 (by assumption) (by assumption)); (with_reducible first | exact v11_0 | exact v11_1 | exact v11_6 | exact v11_7 | exact v11_8 | exact v11_9 | exact v11_10 | exact w2 (by assumption) | exact w2 (min4 (by assumption)))) | (refine sf_adds ?_ ?_; (with_reducible first | exact v8_0 | exact v8_1 | exact v8_2 | exact v8_3 | exact v8_4 | exact v8_5 | exact v8_6 | exact v8_7)) | (refine sf_u (by omega) ?_)))); done))) (cwV 2 hts gX6_weeklyOf_X6_of rfl rfl rfl (by decide +kernel) ⟨Nat.le_of_ble_eq_true rfl, Nat.le_of_ble_eq_true rfl⟩) hP hK hX hS 0 5 md_0 rfl rfl hl.1 rfl (Nat.le_of_ble_eq_true rfl) dX6_weeklyOf_42 ⟨Nat.zero_le _, Nat.zero_le _⟩ ?_
          refine roS CF (c_X6_walk l D cI cC cW t _ ) (va_cwS 1 hts gX6_weeklyOf_X6_walk rfl rfl rfl (by decide +kernel) ⟨Nat.le_of_ble_eq_true rfl, Nat.le_of_ble_eq_true rfl⟩) vP_nil hK hX hS rfl hl.1 rfl (Nat.le_of_ble_eq_true rfl) dX6_weeklyOf_45 ⟨Nat.zero_le _, Nat.zero_le _⟩ ?_
          refine lv_imul hx hb dX6_weeklyOf_48 ?_
          refine lv_iadd hx hb dX6_weeklyOf_49 ?_
          refine lv_istore_n (lv' := [(2, .int _), (3, .int _), (0, .ref _), (1, .int _)]) hx hb dX6_weeklyOf_50 rfl hl (by decide) rfl (fun ls hl => ?_)
          refine lv_iinc (v := _ + (1 : Int32)) (lv' := [(3, .int _), (2, .int _), (0, .ref _), (1, .int _)]) hx hb dX6_weeklyOf_51 hl (k := 1) rfl rfl (by decide) rfl (fun ls hl => ?_)
          refine lv_goto (tgt := 4) hx hb dX6_weeklyOf_54 (by decide) ?_
          exact ih4 _ _ (cs1 i1 c11) (cs2 c11) (csm c11 im) (Eq.trans hsp4 (Eq.trans (lp4_X6_weeklyOf_s _ _ _ _ _ _) (Eq.trans (if_neg c11) (Eq.trans (if_neg c23) (rfl))))) _ (lv_sub hl [1, 0, 2, 3] rfl)
        · refine lv_iconst (v := 0) hx hb dX6_weeklyOf_26 (by decide) ?_
          refine lv_goto (tgt := 49) hx hb dX6_weeklyOf_27 (by decide) ?_
          refine lv_iadd hx hb dX6_weeklyOf_49 ?_
          refine lv_istore_n (lv' := [(2, .int _), (3, .int _), (0, .ref _), (1, .int _)]) hx hb dX6_weeklyOf_50 rfl hl (by decide) rfl (fun ls hl => ?_)
          refine lv_iinc (v := _ + (1 : Int32)) (lv' := [(3, .int _), (2, .int _), (0, .ref _), (1, .int _)]) hx hb dX6_weeklyOf_51 hl (k := 1) rfl rfl (by decide) rfl (fun ls hl => ?_)
          refine lv_goto (tgt := 4) hx hb dX6_weeklyOf_54 (by decide) ?_
          exact ih4 _ _ (cs1 i1 c11) (cs2 c11) (csm c11 im) (Eq.trans hsp4 (Eq.trans (lp4_X6_weeklyOf_s _ _ _ _ _ _) (Eq.trans (if_neg c11) (Eq.trans (if_pos c23) (rfl))))) _ (lv_sub hl [1, 0, 2, 3] rfl)
  exact L4 21 _ _ (by decide) (cn2 hsf) (cnm hsf) (rfl) _ (lv_sub hl [1, 0, 2, 3] rfl)

def lp2_X6_highest (N : Nat → Int32) (Z : Nat → Nat → Int32) (x1 : Int32) : Nat → Int32 → Int32
  | 0, v2 => 0
  | n + 1, v2 => if (5 : Int32) ≤ v2 then (v2) else (if (sp_X6_most (v2 + (1 : Int32))) < (sp_X6_of N Z x1 (0 : Int32)) then (v2) else (lp2_X6_highest N Z x1 n (v2 + (1 : Int32)) ))
theorem lp2_X6_highest_s (N : Nat → Int32) (Z : Nat → Nat → Int32) (x1 : Int32) (n : Nat) (v2 : Int32)  : lp2_X6_highest N Z x1 (n + 1) v2 = if (5 : Int32) ≤ v2 then (v2) else (if (sp_X6_most (v2 + (1 : Int32))) < (sp_X6_of N Z x1 (0 : Int32)) then (v2) else (lp2_X6_highest N Z x1 n (v2 + (1 : Int32)) )) := rfl
def sp_X6_highest (N : Nat → Int32) (Z : Nat → Nat → Int32) (x1 : Int32) : Int32 :=
  lp2_X6_highest N Z x1 6 (0 : Int32) 
set_option maxHeartbeats 4000000 in
set_option maxRecDepth 100000 in
theorem c_X6_highest (l : Launch) (D : va_G) (cI cC cW : ClassId) (t : Nat → Nat) (a : Nat → Nat) (N : Nat → Int32) (Z : Nat → Nat → Int32) (x1 : Int32) (h1 : vp_in x1 20) : Met l yX6_highest wsX6_highest ({ frames := 1, cells := 0, slots := 0, locals := 22 }) (va_Pc [.ref (a 0), .int x1] (roP D (tyL cI cC cW) (md cI a N Z) t)) (vp_Si (fun r => r = sp_X6_highest N Z x1)) 0 0 (fun _ => False) := by
  refine Met.ofW (cc := cX6_highest) (maxL := 3) (ret := (some .int)) (by decide) rfl ?_
  intro p e s m args below meth c s₁ B hml hv
  obtain ⟨rfl, hP, hK, hX⟩ := hv
  have hx := B.exec
  have hb := B.bytes
  have hr := B.returns
  have hts := atoms_spec (ws := wsX6_highest) B.pre
  have hown : s.vm.findClass RX6 = some m.cls := findClass_of_methodNamed B.named
  have hlocks := B.notSynchronized
  have hS : va_S (fun _ => False) s.heap s.heap [] := va_S.rf
  have CF : CallFix p m c cX6_highest 3 s [.ref (a 0), .int x1].toArray wsX6_highest RX6 := ⟨hx, hb, hml, hown, hts⟩
  have hl := lv_entry ([.ref (a 0), .int x1]) (n := 3) (Nat.le_of_ble_eq_true rfl)
  rw [lg_entry_eq]
  generalize (lg_sl ([.ref (a 0), .int x1]) ++ List.replicate (3 - (lg_sl ([.ref (a 0), .int x1])).length) Slot.unset).toArray = ls at hl ⊢
  have hl : lv_has ls 3 [(0, .ref (a 0)), (1, .int x1)] := hl
  refine lv_iconst (v := 0) hx hb dX6_highest_0 (by decide) ?_
  refine lv_istore_n (lv' := [(2, .int _), (0, .ref _), (1, .int _)]) hx hb dX6_highest_1 rfl hl (by decide) rfl (fun ls hl => ?_)
  have L2 : ∀ (n2 : Nat) (v2 : Int32), (0 ≤ v2.toInt) → (v2.toInt ≤ (5 : Int32).toInt) → ((5 : Int32).toInt - v2.toInt < (n2 : Int)) → sp_X6_highest N Z x1 = lp2_X6_highest N Z x1 (n2) v2  → ∀ (ls : Array Slot), lv_has ls 3 [(2, .int v2), (0, .ref (a 0)), (1, .int x1)] → W p l e (headSpec wsX6_highest ({ frames := 1, cells := 0, slots := 0, locals := 22 } : Room)).room s m [.ref (a 0), .int x1].toArray below meth c s.heap [] 0 0 (MQ below (vp_Si (fun r => r = sp_X6_highest N Z x1)) [.ref (a 0), .int x1].toArray s 0 0 (fun _ => False)) (F0 m 2 ls []) := by
    intro n2
    induction n2 with
    | zero => intro v2  i1 i2 im; exfalso; omega
    | succ n2 ih2 =>
      intro v2  i1 i2 im hsp2 ls hl
      refine lv_iload_n hx hb dX6_highest_2 rfl (lv_at hl 0 rfl) ?_
      refine lv_iconst (v := 5) hx hb dX6_highest_3 (by decide) ?_
      refine lv_icmp_ge (tgt := 28) hx hb dX6_highest_4 (by decide) (fun c4 => ?_) (fun c4 => ?_)
      · refine lv_iload_n hx hb dX6_highest_28 rfl (lv_at hl 0 rfl) ?_
        exact ro_ret hx hb hr (Eq.trans hsp2 (Eq.trans (lp2_X6_highest_s _ _ _ _ _) (Eq.trans (if_pos c4) (rfl)))) dX6_highest_29 hlocks
      · refine lv_aload_n hx hb dX6_highest_7 rfl (lv_at hl 1 rfl) ?_
        refine lv_iload_n hx hb dX6_highest_8 rfl (lv_at hl 2 rfl) ?_
        refine lv_iconst (v := 0) hx hb dX6_highest_9 (by decide) ?_
        refine roV CF (c_X6_of l D cI cC cW t _ _ _ _ _ (by first | (with_reducible first | assumption | exact m20 (by assumption) (by assumption) | exact ga20 (by assumption) (by assumption) | exact w2 (by assumption) | exact w2 (min4 (by assumption)) | exact w2 (s46 (by assumption)) | exact min4 (by assumption) | exact s46 (by assumption) | exact min11 (by assumption) (by assumption)) | (unfold vp_in; decide) | ((with_reducible (repeat (first | assumption | (refine sf_lays ?_ ?_ ?_; (with_reducible first | assumption | exact m20 (by assumption) (by assumption) | exact ga20 (by assumption) (by assumption)); (with_reducible first | exact v11_0 | exact v11_1 | exact v11_6 | exact v11_7 | exact v11_8 | exact v11_9 | exact v11_10 | exact w2 (by assumption) | exact w2 (min4 (by assumption)))) | (refine sf_adds ?_ ?_; (with_reducible first | exact v8_0 | exact v8_1 | exact v8_2 | exact v8_3 | exact v8_4 | exact v8_5 | exact v8_6 | exact v8_7)) | (refine sf_u (by omega) ?_)))); done)) (by first | (with_reducible first | assumption | exact m20 (by assumption) (by assumption) | exact ga20 (by assumption) (by assumption) | exact w2 (by assumption) | exact w2 (min4 (by assumption)) | exact w2 (s46 (by assumption)) | exact min4 (by assumption) | exact s46 (by assumption) | exact min11 (by assumption) (by assumption)) | (unfold vp_in; decide) | ((with_reducible (repeat (first | assumption | (refine sf_lays ?_ ?_ ?_; (with_reducible first | assumption | exact m20 (by assumption) (by assumption) | exact ga20 (by assumption) (by assumption)); (with_reducible first | exact v11_0 | exact v11_1 | exact v11_6 | exact v11_7 | exact v11_8 | exact v11_9 | exact v11_10 | exact w2 (by assumption) | exact w2 (min4 (by assumption)))) | (refine sf_adds ?_ ?_; (with_reducible first | exact v8_0 | exact v8_1 | exact v8_2 | exact v8_3 | exact v8_4 | exact v8_5 | exact v8_6 | exact v8_7)) | (refine sf_u (by omega) ?_)))); done))) (cwV 2 hts gX6_highest_X6_of rfl rfl rfl (by decide +kernel) ⟨Nat.le_of_ble_eq_true rfl, Nat.le_of_ble_eq_true rfl⟩) hP hK hX hS 0 5 md_0 rfl rfl hl.1 rfl (Nat.le_of_ble_eq_true rfl) dX6_highest_10 ⟨Nat.zero_le _, Nat.zero_le _⟩ ?_
        refine lv_iload_n hx hb dX6_highest_13 rfl (lv_at hl 0 rfl) ?_
        refine lv_iconst (v := 1) hx hb dX6_highest_14 (by decide) ?_
        refine lv_iadd hx hb dX6_highest_15 ?_
        refine roS CF (c_X6_most l D cI cC cW t _ ) (va_cwS 1 hts gX6_highest_X6_most rfl rfl rfl (by decide +kernel) ⟨Nat.le_of_ble_eq_true rfl, Nat.le_of_ble_eq_true rfl⟩) vP_nil hK hX hS rfl hl.1 rfl (Nat.le_of_ble_eq_true rfl) dX6_highest_16 ⟨Nat.zero_le _, Nat.zero_le _⟩ ?_
        refine lv_icmp_gt (tgt := 28) hx hb dX6_highest_19 (by decide) (fun c19 => ?_) (fun c19 => ?_)
        · refine lv_iload_n hx hb dX6_highest_28 rfl (lv_at hl 0 rfl) ?_
          exact ro_ret hx hb hr (Eq.trans hsp2 (Eq.trans (lp2_X6_highest_s _ _ _ _ _) (Eq.trans (if_neg c4) (Eq.trans (if_pos c19) (rfl))))) dX6_highest_29 hlocks
        · refine lv_iinc (v := _ + (1 : Int32)) (lv' := [(2, .int _), (0, .ref _), (1, .int _)]) hx hb dX6_highest_22 hl (k := 0) rfl rfl (by decide) rfl (fun ls hl => ?_)
          refine lv_goto (tgt := 2) hx hb dX6_highest_25 (by decide) ?_
          exact ih2 _ (cs1 i1 c4) (cs2 c4) (csm c4 im) (Eq.trans hsp2 (Eq.trans (lp2_X6_highest_s _ _ _ _ _) (Eq.trans (if_neg c4) (Eq.trans (if_neg c19) (rfl))))) _ (lv_sub hl [0, 1, 2] rfl)
  exact L2 6 _ (by decide) (by decide) (by decide) (rfl) _ (lv_sub hl [0, 1, 2] rfl)

def sp_X6_goodOf (N : Nat → Int32) (Z : Nat → Nat → Int32) (x1 x2 : Int32) : Int32 :=
  if (sp_X6_isGood N Z x1) = 0 then ((-1 : Int32)) else (if (sp_X6_in x2 (0 : Int32) (11 : Int32)) = 0 then ((-1 : Int32)) else (if x2 = (11 : Int32) then ((sp_X6_highest N Z x1)) else (if x2 = (6 : Int32) then (if (sp_X6_of N Z x1 (6 : Int32)) = (-1 : Int32) then ((-4 : Int32)) else ((sp_X6_of N Z x1 x2))) else ((sp_X6_of N Z x1 x2)))))
set_option maxHeartbeats 4000000 in
set_option maxRecDepth 100000 in
theorem c_X6_goodOf (l : Launch) (D : va_G) (cI cC cW : ClassId) (t : Nat → Nat) (a : Nat → Nat) (N : Nat → Int32) (Z : Nat → Nat → Int32) (x1 x2 : Int32) (hsf : sfN N) : Met l yX6_goodOf wsX6_goodOf ({ frames := 2, cells := 0, slots := 0, locals := 44 }) (va_Pc [.ref (a 0), .int x1, .int x2] (roP D (tyL cI cC cW) (md cI a N Z) t)) (vp_Si (fun r => r = sp_X6_goodOf N Z x1 x2)) 0 0 (fun _ => False) := by
  refine Met.ofW (cc := cX6_goodOf) (maxL := 3) (ret := (some .int)) (by decide) rfl ?_
  intro p e s m args below meth c s₁ B hml hv
  obtain ⟨rfl, hP, hK, hX⟩ := hv
  have hx := B.exec
  have hb := B.bytes
  have hr := B.returns
  have hts := atoms_spec (ws := wsX6_goodOf) B.pre
  have hown : s.vm.findClass RX6 = some m.cls := findClass_of_methodNamed B.named
  have hlocks := B.notSynchronized
  have hS : va_S (fun _ => False) s.heap s.heap [] := va_S.rf
  have CF : CallFix p m c cX6_goodOf 3 s [.ref (a 0), .int x1, .int x2].toArray wsX6_goodOf RX6 := ⟨hx, hb, hml, hown, hts⟩
  have hl := lv_entry ([.ref (a 0), .int x1, .int x2]) (n := 3) (Nat.le_of_ble_eq_true rfl)
  rw [lg_entry_eq]
  generalize (lg_sl ([.ref (a 0), .int x1, .int x2]) ++ List.replicate (3 - (lg_sl ([.ref (a 0), .int x1, .int x2])).length) Slot.unset).toArray = ls at hl ⊢
  have hl : lv_has ls 3 [(0, .ref (a 0)), (1, .int x1), (2, .int x2)] := hl
  refine lv_aload_n hx hb dX6_goodOf_0 rfl (lv_at hl 0 rfl) ?_
  refine lv_iload_n hx hb dX6_goodOf_1 rfl (lv_at hl 1 rfl) ?_
  refine roV CF (c_X6_isGood l D cI cC cW t _ _ _ _ ) (cwV 1 hts gX6_goodOf_X6_isGood rfl rfl rfl (by decide +kernel) ⟨Nat.le_of_ble_eq_true rfl, Nat.le_of_ble_eq_true rfl⟩) hP hK hX hS 0 5 md_0 rfl rfl hl.1 rfl (Nat.le_of_ble_eq_true rfl) dX6_goodOf_2 ⟨Nat.zero_le _, Nat.zero_le _⟩ ?_
  refine lv_if_eq (tgt := 18) hx hb dX6_goodOf_5 (by decide) (fun c5 => ?_) (fun c5 => ?_)
  · refine lv_iconst (v := -1) hx hb dX6_goodOf_18 (by decide) ?_
    exact ro_ret hx hb hr (Eq.trans (if_pos c5) (rfl)) dX6_goodOf_19 hlocks
  · refine lv_iload_n hx hb dX6_goodOf_8 rfl (lv_at hl 2 rfl) ?_
    refine lv_iconst (v := 0) hx hb dX6_goodOf_9 (by decide) ?_
    refine lv_bipush (v := 11) hx hb dX6_goodOf_10 (by decide) ?_
    refine roS CF (c_X6_in l D cI cC cW t _ _ _ ) (va_cwS 3 hts gX6_goodOf_X6_in rfl rfl rfl (by decide +kernel) ⟨Nat.le_of_ble_eq_true rfl, Nat.le_of_ble_eq_true rfl⟩) vP_nil hK hX hS rfl hl.1 rfl (Nat.le_of_ble_eq_true rfl) dX6_goodOf_12 ⟨Nat.zero_le _, Nat.zero_le _⟩ ?_
    refine lv_if_ne (tgt := 20) hx hb dX6_goodOf_15 (by decide) (fun c15 => ?_) (fun c15 => ?_)
    · refine lv_iload_n hx hb dX6_goodOf_20 rfl (lv_at hl 2 rfl) ?_
      refine lv_bipush (v := 11) hx hb dX6_goodOf_21 (by decide) ?_
      refine lv_icmp_ne (tgt := 32) hx hb dX6_goodOf_23 (by decide) (fun c23 => ?_) (fun c23 => ?_)
      · refine lv_iload_n hx hb dX6_goodOf_32 rfl (lv_at hl 2 rfl) ?_
        refine lv_bipush (v := 6) hx hb dX6_goodOf_33 (by decide) ?_
        refine lv_icmp_ne (tgt := 54) hx hb dX6_goodOf_35 (by decide) (fun c35 => ?_) (fun c35 => ?_)
        · refine lv_aload_n hx hb dX6_goodOf_54 rfl (lv_at hl 0 rfl) ?_
          refine lv_iload_n hx hb dX6_goodOf_55 rfl (lv_at hl 1 rfl) ?_
          refine lv_iload_n hx hb dX6_goodOf_56 rfl (lv_at hl 2 rfl) ?_
          refine roV CF (c_X6_of l D cI cC cW t _ _ _ _ _ (by first | (with_reducible first | assumption | exact m20 (by assumption) (by assumption) | exact ga20 (by assumption) (by assumption) | exact w2 (by assumption) | exact w2 (min4 (by assumption)) | exact w2 (s46 (by assumption)) | exact min4 (by assumption) | exact s46 (by assumption) | exact min11 (by assumption) (by assumption)) | (unfold vp_in; decide) | ((with_reducible (repeat (first | assumption | (refine sf_lays ?_ ?_ ?_; (with_reducible first | assumption | exact m20 (by assumption) (by assumption) | exact ga20 (by assumption) (by assumption)); (with_reducible first | exact v11_0 | exact v11_1 | exact v11_6 | exact v11_7 | exact v11_8 | exact v11_9 | exact v11_10 | exact w2 (by assumption) | exact w2 (min4 (by assumption)))) | (refine sf_adds ?_ ?_; (with_reducible first | exact v8_0 | exact v8_1 | exact v8_2 | exact v8_3 | exact v8_4 | exact v8_5 | exact v8_6 | exact v8_7)) | (refine sf_u (by omega) ?_)))); done)) (by first | (with_reducible first | assumption | exact m20 (by assumption) (by assumption) | exact ga20 (by assumption) (by assumption) | exact w2 (by assumption) | exact w2 (min4 (by assumption)) | exact w2 (s46 (by assumption)) | exact min4 (by assumption) | exact s46 (by assumption) | exact min11 (by assumption) (by assumption)) | (unfold vp_in; decide) | ((with_reducible (repeat (first | assumption | (refine sf_lays ?_ ?_ ?_; (with_reducible first | assumption | exact m20 (by assumption) (by assumption) | exact ga20 (by assumption) (by assumption)); (with_reducible first | exact v11_0 | exact v11_1 | exact v11_6 | exact v11_7 | exact v11_8 | exact v11_9 | exact v11_10 | exact w2 (by assumption) | exact w2 (min4 (by assumption)))) | (refine sf_adds ?_ ?_; (with_reducible first | exact v8_0 | exact v8_1 | exact v8_2 | exact v8_3 | exact v8_4 | exact v8_5 | exact v8_6 | exact v8_7)) | (refine sf_u (by omega) ?_)))); done))) (cwV 2 hts gX6_goodOf_X6_of rfl rfl rfl (by decide +kernel) ⟨Nat.le_of_ble_eq_true rfl, Nat.le_of_ble_eq_true rfl⟩) hP hK hX hS 0 5 md_0 rfl rfl hl.1 rfl (Nat.le_of_ble_eq_true rfl) dX6_goodOf_57 ⟨Nat.zero_le _, Nat.zero_le _⟩ ?_
          exact ro_ret hx hb hr (Eq.trans (if_neg c5) (Eq.trans (if_neg c15) (Eq.trans (if_neg c23) (Eq.trans (if_neg c35) (rfl))))) dX6_goodOf_60 hlocks
        · refine lv_aload_n hx hb dX6_goodOf_38 rfl (lv_at hl 0 rfl) ?_
          refine lv_iload_n hx hb dX6_goodOf_39 rfl (lv_at hl 1 rfl) ?_
          refine lv_bipush (v := 6) hx hb dX6_goodOf_40 (by decide) ?_
          refine roV CF (c_X6_of l D cI cC cW t _ _ _ _ _ (by first | (with_reducible first | assumption | exact m20 (by assumption) (by assumption) | exact ga20 (by assumption) (by assumption) | exact w2 (by assumption) | exact w2 (min4 (by assumption)) | exact w2 (s46 (by assumption)) | exact min4 (by assumption) | exact s46 (by assumption) | exact min11 (by assumption) (by assumption)) | (unfold vp_in; decide) | ((with_reducible (repeat (first | assumption | (refine sf_lays ?_ ?_ ?_; (with_reducible first | assumption | exact m20 (by assumption) (by assumption) | exact ga20 (by assumption) (by assumption)); (with_reducible first | exact v11_0 | exact v11_1 | exact v11_6 | exact v11_7 | exact v11_8 | exact v11_9 | exact v11_10 | exact w2 (by assumption) | exact w2 (min4 (by assumption)))) | (refine sf_adds ?_ ?_; (with_reducible first | exact v8_0 | exact v8_1 | exact v8_2 | exact v8_3 | exact v8_4 | exact v8_5 | exact v8_6 | exact v8_7)) | (refine sf_u (by omega) ?_)))); done)) (by first | (with_reducible first | assumption | exact m20 (by assumption) (by assumption) | exact ga20 (by assumption) (by assumption) | exact w2 (by assumption) | exact w2 (min4 (by assumption)) | exact w2 (s46 (by assumption)) | exact min4 (by assumption) | exact s46 (by assumption) | exact min11 (by assumption) (by assumption)) | (unfold vp_in; decide) | ((with_reducible (repeat (first | assumption | (refine sf_lays ?_ ?_ ?_; (with_reducible first | assumption | exact m20 (by assumption) (by assumption) | exact ga20 (by assumption) (by assumption)); (with_reducible first | exact v11_0 | exact v11_1 | exact v11_6 | exact v11_7 | exact v11_8 | exact v11_9 | exact v11_10 | exact w2 (by assumption) | exact w2 (min4 (by assumption)))) | (refine sf_adds ?_ ?_; (with_reducible first | exact v8_0 | exact v8_1 | exact v8_2 | exact v8_3 | exact v8_4 | exact v8_5 | exact v8_6 | exact v8_7)) | (refine sf_u (by omega) ?_)))); done))) (cwV 2 hts gX6_goodOf_X6_of rfl rfl rfl (by decide +kernel) ⟨Nat.le_of_ble_eq_true rfl, Nat.le_of_ble_eq_true rfl⟩) hP hK hX hS 0 5 md_0 rfl rfl hl.1 rfl (Nat.le_of_ble_eq_true rfl) dX6_goodOf_42 ⟨Nat.zero_le _, Nat.zero_le _⟩ ?_
          refine lv_iconst (v := -1) hx hb dX6_goodOf_45 (by decide) ?_
          refine lv_icmp_ne (tgt := 54) hx hb dX6_goodOf_46 (by decide) (fun c46 => ?_) (fun c46 => ?_)
          · refine lv_aload_n hx hb dX6_goodOf_54 rfl (lv_at hl 0 rfl) ?_
            refine lv_iload_n hx hb dX6_goodOf_55 rfl (lv_at hl 1 rfl) ?_
            refine lv_iload_n hx hb dX6_goodOf_56 rfl (lv_at hl 2 rfl) ?_
            refine roV CF (c_X6_of l D cI cC cW t _ _ _ _ _ (by first | (with_reducible first | assumption | exact m20 (by assumption) (by assumption) | exact ga20 (by assumption) (by assumption) | exact w2 (by assumption) | exact w2 (min4 (by assumption)) | exact w2 (s46 (by assumption)) | exact min4 (by assumption) | exact s46 (by assumption) | exact min11 (by assumption) (by assumption)) | (unfold vp_in; decide) | ((with_reducible (repeat (first | assumption | (refine sf_lays ?_ ?_ ?_; (with_reducible first | assumption | exact m20 (by assumption) (by assumption) | exact ga20 (by assumption) (by assumption)); (with_reducible first | exact v11_0 | exact v11_1 | exact v11_6 | exact v11_7 | exact v11_8 | exact v11_9 | exact v11_10 | exact w2 (by assumption) | exact w2 (min4 (by assumption)))) | (refine sf_adds ?_ ?_; (with_reducible first | exact v8_0 | exact v8_1 | exact v8_2 | exact v8_3 | exact v8_4 | exact v8_5 | exact v8_6 | exact v8_7)) | (refine sf_u (by omega) ?_)))); done)) (by first | (with_reducible first | assumption | exact m20 (by assumption) (by assumption) | exact ga20 (by assumption) (by assumption) | exact w2 (by assumption) | exact w2 (min4 (by assumption)) | exact w2 (s46 (by assumption)) | exact min4 (by assumption) | exact s46 (by assumption) | exact min11 (by assumption) (by assumption)) | (unfold vp_in; decide) | ((with_reducible (repeat (first | assumption | (refine sf_lays ?_ ?_ ?_; (with_reducible first | assumption | exact m20 (by assumption) (by assumption) | exact ga20 (by assumption) (by assumption)); (with_reducible first | exact v11_0 | exact v11_1 | exact v11_6 | exact v11_7 | exact v11_8 | exact v11_9 | exact v11_10 | exact w2 (by assumption) | exact w2 (min4 (by assumption)))) | (refine sf_adds ?_ ?_; (with_reducible first | exact v8_0 | exact v8_1 | exact v8_2 | exact v8_3 | exact v8_4 | exact v8_5 | exact v8_6 | exact v8_7)) | (refine sf_u (by omega) ?_)))); done))) (cwV 2 hts gX6_goodOf_X6_of rfl rfl rfl (by decide +kernel) ⟨Nat.le_of_ble_eq_true rfl, Nat.le_of_ble_eq_true rfl⟩) hP hK hX hS 0 5 md_0 rfl rfl hl.1 rfl (Nat.le_of_ble_eq_true rfl) dX6_goodOf_57 ⟨Nat.zero_le _, Nat.zero_le _⟩ ?_
            exact ro_ret hx hb hr (Eq.trans (if_neg c5) (Eq.trans (if_neg c15) (Eq.trans (if_neg c23) (Eq.trans (if_pos c35) (Eq.trans (if_neg c46) (rfl)))))) dX6_goodOf_60 hlocks
          · refine lv_bipush (v := -4) hx hb dX6_goodOf_49 (by decide) ?_
            refine lv_goto (tgt := 60) hx hb dX6_goodOf_51 (by decide) ?_
            exact ro_ret hx hb hr (Eq.trans (if_neg c5) (Eq.trans (if_neg c15) (Eq.trans (if_neg c23) (Eq.trans (if_pos c35) (Eq.trans (if_pos c46) (rfl)))))) dX6_goodOf_60 hlocks
      · refine lv_aload_n hx hb dX6_goodOf_26 rfl (lv_at hl 0 rfl) ?_
        refine lv_iload_n hx hb dX6_goodOf_27 rfl (lv_at hl 1 rfl) ?_
        refine roV CF (c_X6_highest l D cI cC cW t _ _ _ _ (by first | (with_reducible first | assumption | exact m20 (by assumption) (by assumption) | exact ga20 (by assumption) (by assumption) | exact w2 (by assumption) | exact w2 (min4 (by assumption)) | exact w2 (s46 (by assumption)) | exact min4 (by assumption) | exact s46 (by assumption) | exact min11 (by assumption) (by assumption)) | (unfold vp_in; decide) | ((with_reducible (repeat (first | assumption | (refine sf_lays ?_ ?_ ?_; (with_reducible first | assumption | exact m20 (by assumption) (by assumption) | exact ga20 (by assumption) (by assumption)); (with_reducible first | exact v11_0 | exact v11_1 | exact v11_6 | exact v11_7 | exact v11_8 | exact v11_9 | exact v11_10 | exact w2 (by assumption) | exact w2 (min4 (by assumption)))) | (refine sf_adds ?_ ?_; (with_reducible first | exact v8_0 | exact v8_1 | exact v8_2 | exact v8_3 | exact v8_4 | exact v8_5 | exact v8_6 | exact v8_7)) | (refine sf_u (by omega) ?_)))); done))) (cwV 1 hts gX6_goodOf_X6_highest rfl rfl rfl (by decide +kernel) ⟨Nat.le_of_ble_eq_true rfl, Nat.le_of_ble_eq_true rfl⟩) hP hK hX hS 0 5 md_0 rfl rfl hl.1 rfl (Nat.le_of_ble_eq_true rfl) dX6_goodOf_28 ⟨Nat.zero_le _, Nat.zero_le _⟩ ?_
        exact ro_ret hx hb hr (Eq.trans (if_neg c5) (Eq.trans (if_neg c15) (Eq.trans (if_pos c23) (rfl)))) dX6_goodOf_31 hlocks
    · refine lv_iconst (v := -1) hx hb dX6_goodOf_18 (by decide) ?_
      exact ro_ret hx hb hr (Eq.trans (if_neg c5) (Eq.trans (if_pos c15) (rfl))) dX6_goodOf_19 hlocks

def sp_X6_slotOf (N : Nat → Int32) (Z : Nat → Nat → Int32) (x1 x2 : Int32) : Int32 :=
  if (sp_X6_isSlot x1) = 0 then ((-1 : Int32)) else (if (sp_X6_in x2 (0 : Int32) (2 : Int32)) = 0 then ((-1 : Int32)) else (if x2 = (1 : Int32) then ((sp_X6_walk x1)) else (if x2 = (2 : Int32) then ((sp_X6_most (x1 - x1 / (6 : Int32) * (6 : Int32)))) else (if (sp_X6_goodAt N Z x1) = (-1 : Int32) then ((-4 : Int32)) else ((sp_X6_goodAt N Z x1))))))
set_option maxHeartbeats 4000000 in
set_option maxRecDepth 100000 in
theorem c_X6_slotOf (l : Launch) (D : va_G) (cI cC cW : ClassId) (t : Nat → Nat) (a : Nat → Nat) (N : Nat → Int32) (Z : Nat → Nat → Int32) (x1 x2 : Int32) (hsf : sfN N) : Met l yX6_slotOf wsX6_slotOf ({ frames := 2, cells := 0, slots := 0, locals := 44 }) (va_Pc [.ref (a 0), .int x1, .int x2] (roP D (tyL cI cC cW) (md cI a N Z) t)) (vp_Si (fun r => r = sp_X6_slotOf N Z x1 x2)) 0 0 (fun _ => False) := by
  refine Met.ofW (cc := cX6_slotOf) (maxL := 4) (ret := (some .int)) (by decide) rfl ?_
  intro p e s m args below meth c s₁ B hml hv
  obtain ⟨rfl, hP, hK, hX⟩ := hv
  have hx := B.exec
  have hb := B.bytes
  have hr := B.returns
  have hts := atoms_spec (ws := wsX6_slotOf) B.pre
  have hown : s.vm.findClass RX6 = some m.cls := findClass_of_methodNamed B.named
  have hlocks := B.notSynchronized
  have hS : va_S (fun _ => False) s.heap s.heap [] := va_S.rf
  have CF : CallFix p m c cX6_slotOf 4 s [.ref (a 0), .int x1, .int x2].toArray wsX6_slotOf RX6 := ⟨hx, hb, hml, hown, hts⟩
  have hl := lv_entry ([.ref (a 0), .int x1, .int x2]) (n := 4) (Nat.le_of_ble_eq_true rfl)
  rw [lg_entry_eq]
  generalize (lg_sl ([.ref (a 0), .int x1, .int x2]) ++ List.replicate (4 - (lg_sl ([.ref (a 0), .int x1, .int x2])).length) Slot.unset).toArray = ls at hl ⊢
  have hl : lv_has ls 4 [(0, .ref (a 0)), (1, .int x1), (2, .int x2)] := hl
  refine lv_iload_n hx hb dX6_slotOf_0 rfl (lv_at hl 1 rfl) ?_
  refine roS CF (c_X6_isSlot l D cI cC cW t _ ) (va_cwS 1 hts gX6_slotOf_X6_isSlot rfl rfl rfl (by decide +kernel) ⟨Nat.le_of_ble_eq_true rfl, Nat.le_of_ble_eq_true rfl⟩) vP_nil hK hX hS rfl hl.1 rfl (Nat.le_of_ble_eq_true rfl) dX6_slotOf_1 ⟨Nat.zero_le _, Nat.zero_le _⟩ ?_
  refine lv_if_eq (tgt := 16) hx hb dX6_slotOf_4 (by decide) (fun c4 => ?_) (fun c4 => ?_)
  · refine lv_iconst (v := -1) hx hb dX6_slotOf_16 (by decide) ?_
    exact ro_ret hx hb hr (Eq.trans (if_pos c4) (rfl)) dX6_slotOf_17 hlocks
  · refine lv_iload_n hx hb dX6_slotOf_7 rfl (lv_at hl 2 rfl) ?_
    refine lv_iconst (v := 0) hx hb dX6_slotOf_8 (by decide) ?_
    refine lv_iconst (v := 2) hx hb dX6_slotOf_9 (by decide) ?_
    refine roS CF (c_X6_in l D cI cC cW t _ _ _ ) (va_cwS 3 hts gX6_slotOf_X6_in rfl rfl rfl (by decide +kernel) ⟨Nat.le_of_ble_eq_true rfl, Nat.le_of_ble_eq_true rfl⟩) vP_nil hK hX hS rfl hl.1 rfl (Nat.le_of_ble_eq_true rfl) dX6_slotOf_10 ⟨Nat.zero_le _, Nat.zero_le _⟩ ?_
    refine lv_if_ne (tgt := 18) hx hb dX6_slotOf_13 (by decide) (fun c13 => ?_) (fun c13 => ?_)
    · refine lv_aload_n hx hb dX6_slotOf_18 rfl (lv_at hl 0 rfl) ?_
      refine lv_iload_n hx hb dX6_slotOf_19 rfl (lv_at hl 1 rfl) ?_
      refine roV CF (c_X6_goodAt l D cI cC cW t _ _ _ _ (by first | (with_reducible first | assumption | exact m20 (by assumption) (by assumption) | exact ga20 (by assumption) (by assumption) | exact w2 (by assumption) | exact w2 (min4 (by assumption)) | exact w2 (s46 (by assumption)) | exact min4 (by assumption) | exact s46 (by assumption) | exact min11 (by assumption) (by assumption)) | (unfold vp_in; decide) | ((with_reducible (repeat (first | assumption | (refine sf_lays ?_ ?_ ?_; (with_reducible first | assumption | exact m20 (by assumption) (by assumption) | exact ga20 (by assumption) (by assumption)); (with_reducible first | exact v11_0 | exact v11_1 | exact v11_6 | exact v11_7 | exact v11_8 | exact v11_9 | exact v11_10 | exact w2 (by assumption) | exact w2 (min4 (by assumption)))) | (refine sf_adds ?_ ?_; (with_reducible first | exact v8_0 | exact v8_1 | exact v8_2 | exact v8_3 | exact v8_4 | exact v8_5 | exact v8_6 | exact v8_7)) | (refine sf_u (by omega) ?_)))); done))) (cwV 1 hts gX6_slotOf_X6_goodAt rfl rfl rfl (by decide +kernel) ⟨Nat.le_of_ble_eq_true rfl, Nat.le_of_ble_eq_true rfl⟩) hP hK hX hS 0 5 md_0 rfl rfl hl.1 rfl (Nat.le_of_ble_eq_true rfl) dX6_slotOf_20 ⟨Nat.zero_le _, Nat.zero_le _⟩ ?_
      refine lv_istore_n (lv' := [(3, .int _), (0, .ref _), (1, .int _), (2, .int _)]) hx hb dX6_slotOf_23 rfl hl (by decide) rfl (fun ls hl => ?_)
      refine lv_iload_n hx hb dX6_slotOf_24 rfl (lv_at hl 3 rfl) ?_
      refine lv_iconst (v := 1) hx hb dX6_slotOf_25 (by decide) ?_
      refine lv_icmp_ne (tgt := 36) hx hb dX6_slotOf_26 (by decide) (fun c26 => ?_) (fun c26 => ?_)
      · refine lv_iload_n hx hb dX6_slotOf_36 rfl (lv_at hl 3 rfl) ?_
        refine lv_iconst (v := 2) hx hb dX6_slotOf_37 (by decide) ?_
        refine lv_icmp_ne (tgt := 51) hx hb dX6_slotOf_38 (by decide) (fun c38 => ?_) (fun c38 => ?_)
        · refine lv_iload_n hx hb dX6_slotOf_51 rfl (lv_at hl 0 rfl) ?_
          refine lv_iconst (v := -1) hx hb dX6_slotOf_52 (by decide) ?_
          refine lv_icmp_ne (tgt := 61) hx hb dX6_slotOf_53 (by decide) (fun c53 => ?_) (fun c53 => ?_)
          · refine lv_iload_n hx hb dX6_slotOf_61 rfl (lv_at hl 0 rfl) ?_
            exact ro_ret hx hb hr (Eq.trans (if_neg c4) (Eq.trans (if_neg c13) (Eq.trans (if_neg c26) (Eq.trans (if_neg c38) (Eq.trans (if_neg c53) (rfl)))))) dX6_slotOf_62 hlocks
          · refine lv_bipush (v := -4) hx hb dX6_slotOf_56 (by decide) ?_
            refine lv_goto (tgt := 62) hx hb dX6_slotOf_58 (by decide) ?_
            exact ro_ret hx hb hr (Eq.trans (if_neg c4) (Eq.trans (if_neg c13) (Eq.trans (if_neg c26) (Eq.trans (if_neg c38) (Eq.trans (if_pos c53) (rfl)))))) dX6_slotOf_62 hlocks
        · refine lv_iload_n hx hb dX6_slotOf_41 rfl (lv_at hl 2 rfl) ?_
          refine lv_bipush (v := 6) hx hb dX6_slotOf_42 (by decide) ?_
          refine lv_irem hx hb dX6_slotOf_44 (by first | assumption | decide) ?_
          refine roS CF (c_X6_most l D cI cC cW t _ ) (va_cwS 1 hts gX6_slotOf_X6_most rfl rfl rfl (by decide +kernel) ⟨Nat.le_of_ble_eq_true rfl, Nat.le_of_ble_eq_true rfl⟩) vP_nil hK hX hS rfl hl.1 rfl (Nat.le_of_ble_eq_true rfl) dX6_slotOf_45 ⟨Nat.zero_le _, Nat.zero_le _⟩ ?_
          refine lv_goto (tgt := 62) hx hb dX6_slotOf_48 (by decide) ?_
          exact ro_ret hx hb hr (Eq.trans (if_neg c4) (Eq.trans (if_neg c13) (Eq.trans (if_neg c26) (Eq.trans (if_pos c38) (rfl))))) dX6_slotOf_62 hlocks
      · refine lv_iload_n hx hb dX6_slotOf_29 rfl (lv_at hl 2 rfl) ?_
        refine roS CF (c_X6_walk l D cI cC cW t _ ) (va_cwS 1 hts gX6_slotOf_X6_walk rfl rfl rfl (by decide +kernel) ⟨Nat.le_of_ble_eq_true rfl, Nat.le_of_ble_eq_true rfl⟩) vP_nil hK hX hS rfl hl.1 rfl (Nat.le_of_ble_eq_true rfl) dX6_slotOf_30 ⟨Nat.zero_le _, Nat.zero_le _⟩ ?_
        refine lv_goto (tgt := 62) hx hb dX6_slotOf_33 (by decide) ?_
        exact ro_ret hx hb hr (Eq.trans (if_neg c4) (Eq.trans (if_neg c13) (Eq.trans (if_pos c26) (rfl)))) dX6_slotOf_62 hlocks
    · refine lv_iconst (v := -1) hx hb dX6_slotOf_16 (by decide) ?_
      exact ro_ret hx hb hr (Eq.trans (if_neg c4) (Eq.trans (if_pos c13) (rfl))) dX6_slotOf_17 hlocks

def lp15_X6_nearest (N : Nat → Int32) (Z : Nat → Nat → Int32) (x1 : Int32) : Nat → Int32 → Int32 → Int32
  | 0, v2, v3 => 0
  | n + 1, v2, v3 => if (60 : Int32) ≤ v3 then (v2) else (if (sp_X6_goodAt N Z v3) = (-1 : Int32) then (if (sp_X6_mayBe N Z x1 v3) = 0 then (lp15_X6_nearest N Z x1 n v2 (v3 + (1 : Int32)) ) else (if v2 = (-4 : Int32) then (lp15_X6_nearest N Z x1 n v3 (v3 + (1 : Int32)) ) else (if (sp_X6_walk v2) ≤ (sp_X6_walk v3) then (lp15_X6_nearest N Z x1 n v2 (v3 + (1 : Int32)) ) else (lp15_X6_nearest N Z x1 n v3 (v3 + (1 : Int32)) )))) else (lp15_X6_nearest N Z x1 n v2 (v3 + (1 : Int32)) ))
theorem lp15_X6_nearest_s (N : Nat → Int32) (Z : Nat → Nat → Int32) (x1 : Int32) (n : Nat) (v2 : Int32) (v3 : Int32)  : lp15_X6_nearest N Z x1 (n + 1) v2 v3 = if (60 : Int32) ≤ v3 then (v2) else (if (sp_X6_goodAt N Z v3) = (-1 : Int32) then (if (sp_X6_mayBe N Z x1 v3) = 0 then (lp15_X6_nearest N Z x1 n v2 (v3 + (1 : Int32)) ) else (if v2 = (-4 : Int32) then (lp15_X6_nearest N Z x1 n v3 (v3 + (1 : Int32)) ) else (if (sp_X6_walk v2) ≤ (sp_X6_walk v3) then (lp15_X6_nearest N Z x1 n v2 (v3 + (1 : Int32)) ) else (lp15_X6_nearest N Z x1 n v3 (v3 + (1 : Int32)) )))) else (lp15_X6_nearest N Z x1 n v2 (v3 + (1 : Int32)) )) := rfl
def sp_X6_nearest (N : Nat → Int32) (Z : Nat → Nat → Int32) (x1 : Int32) : Int32 :=
  if (sp_X6_isGood N Z x1) = 0 then ((-1 : Int32)) else (lp15_X6_nearest N Z x1 61 (-4 : Int32) (0 : Int32) )
set_option maxHeartbeats 4000000 in
set_option maxRecDepth 100000 in
theorem c_X6_nearest (l : Launch) (D : va_G) (cI cC cW : ClassId) (t : Nat → Nat) (a : Nat → Nat) (N : Nat → Int32) (Z : Nat → Nat → Int32) (x1 : Int32) (hsf : sfN N) : Met l yX6_nearest wsX6_nearest ({ frames := 2, cells := 0, slots := 0, locals := 44 }) (va_Pc [.ref (a 0), .int x1] (roP D (tyL cI cC cW) (md cI a N Z) t)) (vp_Si (fun r => r = sp_X6_nearest N Z x1)) 0 0 (fun _ => False) := by
  refine Met.ofW (cc := cX6_nearest) (maxL := 4) (ret := (some .int)) (by decide) rfl ?_
  intro p e s m args below meth c s₁ B hml hv
  obtain ⟨rfl, hP, hK, hX⟩ := hv
  have hx := B.exec
  have hb := B.bytes
  have hr := B.returns
  have hts := atoms_spec (ws := wsX6_nearest) B.pre
  have hown : s.vm.findClass RX6 = some m.cls := findClass_of_methodNamed B.named
  have hlocks := B.notSynchronized
  have hS : va_S (fun _ => False) s.heap s.heap [] := va_S.rf
  have CF : CallFix p m c cX6_nearest 4 s [.ref (a 0), .int x1].toArray wsX6_nearest RX6 := ⟨hx, hb, hml, hown, hts⟩
  have hl := lv_entry ([.ref (a 0), .int x1]) (n := 4) (Nat.le_of_ble_eq_true rfl)
  rw [lg_entry_eq]
  generalize (lg_sl ([.ref (a 0), .int x1]) ++ List.replicate (4 - (lg_sl ([.ref (a 0), .int x1])).length) Slot.unset).toArray = ls at hl ⊢
  have hl : lv_has ls 4 [(0, .ref (a 0)), (1, .int x1)] := hl
  refine lv_aload_n hx hb dX6_nearest_0 rfl (lv_at hl 0 rfl) ?_
  refine lv_iload_n hx hb dX6_nearest_1 rfl (lv_at hl 1 rfl) ?_
  refine roV CF (c_X6_isGood l D cI cC cW t _ _ _ _ ) (cwV 1 hts gX6_nearest_X6_isGood rfl rfl rfl (by decide +kernel) ⟨Nat.le_of_ble_eq_true rfl, Nat.le_of_ble_eq_true rfl⟩) hP hK hX hS 0 5 md_0 rfl rfl hl.1 rfl (Nat.le_of_ble_eq_true rfl) dX6_nearest_2 ⟨Nat.zero_le _, Nat.zero_le _⟩ ?_
  refine lv_if_ne (tgt := 10) hx hb dX6_nearest_5 (by decide) (fun c5 => ?_) (fun c5 => ?_)
  · refine lv_bipush (v := -4) hx hb dX6_nearest_10 (by decide) ?_
    refine lv_istore_n (lv' := [(2, .int _), (0, .ref _), (1, .int _)]) hx hb dX6_nearest_12 rfl hl (by decide) rfl (fun ls hl => ?_)
    refine lv_iconst (v := 0) hx hb dX6_nearest_13 (by decide) ?_
    refine lv_istore_n (lv' := [(3, .int _), (2, .int _), (0, .ref _), (1, .int _)]) hx hb dX6_nearest_14 rfl hl (by decide) rfl (fun ls hl => ?_)
    have L15 : ∀ (n15 : Nat) (v2 v3 : Int32), (0 ≤ v3.toInt) → (v3.toInt ≤ (60 : Int32).toInt) → ((60 : Int32).toInt - v3.toInt < (n15 : Int)) → sp_X6_nearest N Z x1 = lp15_X6_nearest N Z x1 (n15) v2 v3  → ∀ (ls : Array Slot), lv_has ls 4 [(2, .int v2), (3, .int v3), (0, .ref (a 0)), (1, .int x1)] → W p l e (headSpec wsX6_nearest ({ frames := 2, cells := 0, slots := 0, locals := 44 } : Room)).room s m [.ref (a 0), .int x1].toArray below meth c s.heap [] 0 0 (MQ below (vp_Si (fun r => r = sp_X6_nearest N Z x1)) [.ref (a 0), .int x1].toArray s 0 0 (fun _ => False)) (F0 m 15 ls []) := by
      intro n15
      induction n15 with
      | zero => intro v2 v3  i1 i2 im; exfalso; omega
      | succ n15 ih15 =>
        intro v2 v3  i1 i2 im hsp15 ls hl
        refine lv_iload_n hx hb dX6_nearest_15 rfl (lv_at hl 1 rfl) ?_
        refine lv_bipush (v := 60) hx hb dX6_nearest_16 (by decide) ?_
        refine lv_icmp_ge (tgt := 64) hx hb dX6_nearest_18 (by decide) (fun c18 => ?_) (fun c18 => ?_)
        · refine lv_iload_n hx hb dX6_nearest_64 rfl (lv_at hl 0 rfl) ?_
          exact ro_ret hx hb hr (Eq.trans hsp15 (Eq.trans (lp15_X6_nearest_s _ _ _ _ _ _) (Eq.trans (if_pos c18) (rfl)))) dX6_nearest_65 hlocks
        · refine lv_aload_n hx hb dX6_nearest_21 rfl (lv_at hl 2 rfl) ?_
          refine lv_iload_n hx hb dX6_nearest_22 rfl (lv_at hl 1 rfl) ?_
          refine roV CF (c_X6_goodAt l D cI cC cW t _ _ _ _ (by first | (with_reducible first | assumption | exact m20 (by assumption) (by assumption) | exact ga20 (by assumption) (by assumption) | exact w2 (by assumption) | exact w2 (min4 (by assumption)) | exact w2 (s46 (by assumption)) | exact min4 (by assumption) | exact s46 (by assumption) | exact min11 (by assumption) (by assumption)) | (unfold vp_in; decide) | ((with_reducible (repeat (first | assumption | (refine sf_lays ?_ ?_ ?_; (with_reducible first | assumption | exact m20 (by assumption) (by assumption) | exact ga20 (by assumption) (by assumption)); (with_reducible first | exact v11_0 | exact v11_1 | exact v11_6 | exact v11_7 | exact v11_8 | exact v11_9 | exact v11_10 | exact w2 (by assumption) | exact w2 (min4 (by assumption)))) | (refine sf_adds ?_ ?_; (with_reducible first | exact v8_0 | exact v8_1 | exact v8_2 | exact v8_3 | exact v8_4 | exact v8_5 | exact v8_6 | exact v8_7)) | (refine sf_u (by omega) ?_)))); done))) (cwV 1 hts gX6_nearest_X6_goodAt rfl rfl rfl (by decide +kernel) ⟨Nat.le_of_ble_eq_true rfl, Nat.le_of_ble_eq_true rfl⟩) hP hK hX hS 0 5 md_0 rfl rfl hl.1 rfl (Nat.le_of_ble_eq_true rfl) dX6_nearest_23 ⟨Nat.zero_le _, Nat.zero_le _⟩ ?_
          refine lv_iconst (v := -1) hx hb dX6_nearest_26 (by decide) ?_
          refine lv_icmp_ne (tgt := 58) hx hb dX6_nearest_27 (by decide) (fun c27 => ?_) (fun c27 => ?_)
          · refine lv_iinc (v := _ + (1 : Int32)) (lv' := [(3, .int _), (2, .int _), (0, .ref _), (1, .int _)]) hx hb dX6_nearest_58 hl (k := 1) rfl rfl (by decide) rfl (fun ls hl => ?_)
            refine lv_goto (tgt := 15) hx hb dX6_nearest_61 (by decide) ?_
            exact ih15 _ _ (cs1 i1 c18) (cs2 c18) (csm c18 im) (Eq.trans hsp15 (Eq.trans (lp15_X6_nearest_s _ _ _ _ _ _) (Eq.trans (if_neg c18) (Eq.trans (if_neg c27) (rfl))))) _ (lv_sub hl [1, 0, 2, 3] rfl)
          · refine lv_aload_n hx hb dX6_nearest_30 rfl (lv_at hl 2 rfl) ?_
            refine lv_iload_n hx hb dX6_nearest_31 rfl (lv_at hl 3 rfl) ?_
            refine lv_iload_n hx hb dX6_nearest_32 rfl (lv_at hl 1 rfl) ?_
            refine roV CF (c_X6_mayBe l D cI cC cW t _ _ _ _ _ (by first | (with_reducible first | assumption | exact m20 (by assumption) (by assumption) | exact ga20 (by assumption) (by assumption) | exact w2 (by assumption) | exact w2 (min4 (by assumption)) | exact w2 (s46 (by assumption)) | exact min4 (by assumption) | exact s46 (by assumption) | exact min11 (by assumption) (by assumption)) | (unfold vp_in; decide) | ((with_reducible (repeat (first | assumption | (refine sf_lays ?_ ?_ ?_; (with_reducible first | assumption | exact m20 (by assumption) (by assumption) | exact ga20 (by assumption) (by assumption)); (with_reducible first | exact v11_0 | exact v11_1 | exact v11_6 | exact v11_7 | exact v11_8 | exact v11_9 | exact v11_10 | exact w2 (by assumption) | exact w2 (min4 (by assumption)))) | (refine sf_adds ?_ ?_; (with_reducible first | exact v8_0 | exact v8_1 | exact v8_2 | exact v8_3 | exact v8_4 | exact v8_5 | exact v8_6 | exact v8_7)) | (refine sf_u (by omega) ?_)))); done))) (cwV 2 hts gX6_nearest_X6_mayBe rfl rfl rfl (by decide +kernel) ⟨Nat.le_of_ble_eq_true rfl, Nat.le_of_ble_eq_true rfl⟩) hP hK hX hS 0 5 md_0 rfl rfl hl.1 rfl (Nat.le_of_ble_eq_true rfl) dX6_nearest_33 ⟨Nat.zero_le _, Nat.zero_le _⟩ ?_
            refine lv_if_eq (tgt := 58) hx hb dX6_nearest_36 (by decide) (fun c36 => ?_) (fun c36 => ?_)
            · refine lv_iinc (v := _ + (1 : Int32)) (lv' := [(3, .int _), (2, .int _), (0, .ref _), (1, .int _)]) hx hb dX6_nearest_58 hl (k := 1) rfl rfl (by decide) rfl (fun ls hl => ?_)
              refine lv_goto (tgt := 15) hx hb dX6_nearest_61 (by decide) ?_
              exact ih15 _ _ (cs1 i1 c18) (cs2 c18) (csm c18 im) (Eq.trans hsp15 (Eq.trans (lp15_X6_nearest_s _ _ _ _ _ _) (Eq.trans (if_neg c18) (Eq.trans (if_pos c27) (Eq.trans (if_pos c36) (rfl)))))) _ (lv_sub hl [1, 0, 2, 3] rfl)
            · refine lv_iload_n hx hb dX6_nearest_39 rfl (lv_at hl 0 rfl) ?_
              refine lv_bipush (v := -4) hx hb dX6_nearest_40 (by decide) ?_
              refine lv_icmp_eq (tgt := 56) hx hb dX6_nearest_42 (by decide) (fun c42 => ?_) (fun c42 => ?_)
              · refine lv_iload_n hx hb dX6_nearest_56 rfl (lv_at hl 1 rfl) ?_
                refine lv_istore_n (lv' := [(2, .int _), (3, .int _), (0, .ref _), (1, .int _)]) hx hb dX6_nearest_57 rfl hl (by decide) rfl (fun ls hl => ?_)
                refine lv_iinc (v := _ + (1 : Int32)) (lv' := [(3, .int _), (2, .int _), (0, .ref _), (1, .int _)]) hx hb dX6_nearest_58 hl (k := 1) rfl rfl (by decide) rfl (fun ls hl => ?_)
                refine lv_goto (tgt := 15) hx hb dX6_nearest_61 (by decide) ?_
                exact ih15 _ _ (cs1 i1 c18) (cs2 c18) (csm c18 im) (Eq.trans hsp15 (Eq.trans (lp15_X6_nearest_s _ _ _ _ _ _) (Eq.trans (if_neg c18) (Eq.trans (if_pos c27) (Eq.trans (if_neg c36) (Eq.trans (if_pos c42) (rfl))))))) _ (lv_sub hl [1, 0, 2, 3] rfl)
              · refine lv_iload_n hx hb dX6_nearest_45 rfl (lv_at hl 1 rfl) ?_
                refine roS CF (c_X6_walk l D cI cC cW t _ ) (va_cwS 1 hts gX6_nearest_X6_walk rfl rfl rfl (by decide +kernel) ⟨Nat.le_of_ble_eq_true rfl, Nat.le_of_ble_eq_true rfl⟩) vP_nil hK hX hS rfl hl.1 rfl (Nat.le_of_ble_eq_true rfl) dX6_nearest_46 ⟨Nat.zero_le _, Nat.zero_le _⟩ ?_
                refine lv_iload_n hx hb dX6_nearest_49 rfl (lv_at hl 0 rfl) ?_
                refine roS CF (c_X6_walk l D cI cC cW t _ ) (va_cwS 1 hts gX6_nearest_X6_walk rfl rfl rfl (by decide +kernel) ⟨Nat.le_of_ble_eq_true rfl, Nat.le_of_ble_eq_true rfl⟩) vP_nil hK hX hS rfl hl.1 rfl (Nat.le_of_ble_eq_true rfl) dX6_nearest_50 ⟨Nat.zero_le _, Nat.zero_le _⟩ ?_
                refine lv_icmp_ge (tgt := 58) hx hb dX6_nearest_53 (by decide) (fun c53 => ?_) (fun c53 => ?_)
                · refine lv_iinc (v := _ + (1 : Int32)) (lv' := [(3, .int _), (2, .int _), (0, .ref _), (1, .int _)]) hx hb dX6_nearest_58 hl (k := 1) rfl rfl (by decide) rfl (fun ls hl => ?_)
                  refine lv_goto (tgt := 15) hx hb dX6_nearest_61 (by decide) ?_
                  exact ih15 _ _ (cs1 i1 c18) (cs2 c18) (csm c18 im) (Eq.trans hsp15 (Eq.trans (lp15_X6_nearest_s _ _ _ _ _ _) (Eq.trans (if_neg c18) (Eq.trans (if_pos c27) (Eq.trans (if_neg c36) (Eq.trans (if_neg c42) (Eq.trans (if_pos c53) (rfl)))))))) _ (lv_sub hl [1, 0, 2, 3] rfl)
                · refine lv_iload_n hx hb dX6_nearest_56 rfl (lv_at hl 1 rfl) ?_
                  refine lv_istore_n (lv' := [(2, .int _), (3, .int _), (0, .ref _), (1, .int _)]) hx hb dX6_nearest_57 rfl hl (by decide) rfl (fun ls hl => ?_)
                  refine lv_iinc (v := _ + (1 : Int32)) (lv' := [(3, .int _), (2, .int _), (0, .ref _), (1, .int _)]) hx hb dX6_nearest_58 hl (k := 1) rfl rfl (by decide) rfl (fun ls hl => ?_)
                  refine lv_goto (tgt := 15) hx hb dX6_nearest_61 (by decide) ?_
                  exact ih15 _ _ (cs1 i1 c18) (cs2 c18) (csm c18 im) (Eq.trans hsp15 (Eq.trans (lp15_X6_nearest_s _ _ _ _ _ _) (Eq.trans (if_neg c18) (Eq.trans (if_pos c27) (Eq.trans (if_neg c36) (Eq.trans (if_neg c42) (Eq.trans (if_neg c53) (rfl)))))))) _ (lv_sub hl [1, 0, 2, 3] rfl)
    exact L15 61 _ _ (by decide) (by decide) (by decide) (Eq.trans (if_neg c5) (rfl)) _ (lv_sub hl [1, 0, 2, 3] rfl)
  · refine lv_iconst (v := -1) hx hb dX6_nearest_8 (by decide) ?_
    exact ro_ret hx hb hr (Eq.trans (if_pos c5) (rfl)) dX6_nearest_9 hlocks

def sp_X6_room (N : Nat → Int32) (Z : Nat → Nat → Int32) (x1 : Int32) : Int32 :=
  if (sp_X6_of N Z x1 (8 : Int32)) ≤ ((sp_X6_of N Z x1 (1 : Int32)) - (sp_X6_of N Z x1 (7 : Int32))) then ((sp_X6_of N Z x1 (8 : Int32))) else (((sp_X6_of N Z x1 (1 : Int32)) - (sp_X6_of N Z x1 (7 : Int32))))
set_option maxHeartbeats 4000000 in
set_option maxRecDepth 100000 in
theorem c_X6_room (l : Launch) (D : va_G) (cI cC cW : ClassId) (t : Nat → Nat) (a : Nat → Nat) (N : Nat → Int32) (Z : Nat → Nat → Int32) (x1 : Int32) (h1 : vp_in x1 20) : Met l yX6_room wsX6_room ({ frames := 1, cells := 0, slots := 0, locals := 22 }) (va_Pc [.ref (a 0), .int x1] (roP D (tyL cI cC cW) (md cI a N Z) t)) (vp_Si (fun r => r = sp_X6_room N Z x1)) 0 0 (fun _ => False) := by
  refine Met.ofW (cc := cX6_room) (maxL := 3) (ret := (some .int)) (by decide) rfl ?_
  intro p e s m args below meth c s₁ B hml hv
  obtain ⟨rfl, hP, hK, hX⟩ := hv
  have hx := B.exec
  have hb := B.bytes
  have hr := B.returns
  have hts := atoms_spec (ws := wsX6_room) B.pre
  have hown : s.vm.findClass RX6 = some m.cls := findClass_of_methodNamed B.named
  have hlocks := B.notSynchronized
  have hS : va_S (fun _ => False) s.heap s.heap [] := va_S.rf
  have CF : CallFix p m c cX6_room 3 s [.ref (a 0), .int x1].toArray wsX6_room RX6 := ⟨hx, hb, hml, hown, hts⟩
  have hl := lv_entry ([.ref (a 0), .int x1]) (n := 3) (Nat.le_of_ble_eq_true rfl)
  rw [lg_entry_eq]
  generalize (lg_sl ([.ref (a 0), .int x1]) ++ List.replicate (3 - (lg_sl ([.ref (a 0), .int x1])).length) Slot.unset).toArray = ls at hl ⊢
  have hl : lv_has ls 3 [(0, .ref (a 0)), (1, .int x1)] := hl
  refine lv_aload_n hx hb dX6_room_0 rfl (lv_at hl 0 rfl) ?_
  refine lv_iload_n hx hb dX6_room_1 rfl (lv_at hl 1 rfl) ?_
  refine lv_iconst (v := 1) hx hb dX6_room_2 (by decide) ?_
  refine roV CF (c_X6_of l D cI cC cW t _ _ _ _ _ (by first | (with_reducible first | assumption | exact m20 (by assumption) (by assumption) | exact ga20 (by assumption) (by assumption) | exact w2 (by assumption) | exact w2 (min4 (by assumption)) | exact w2 (s46 (by assumption)) | exact min4 (by assumption) | exact s46 (by assumption) | exact min11 (by assumption) (by assumption)) | (unfold vp_in; decide) | ((with_reducible (repeat (first | assumption | (refine sf_lays ?_ ?_ ?_; (with_reducible first | assumption | exact m20 (by assumption) (by assumption) | exact ga20 (by assumption) (by assumption)); (with_reducible first | exact v11_0 | exact v11_1 | exact v11_6 | exact v11_7 | exact v11_8 | exact v11_9 | exact v11_10 | exact w2 (by assumption) | exact w2 (min4 (by assumption)))) | (refine sf_adds ?_ ?_; (with_reducible first | exact v8_0 | exact v8_1 | exact v8_2 | exact v8_3 | exact v8_4 | exact v8_5 | exact v8_6 | exact v8_7)) | (refine sf_u (by omega) ?_)))); done)) (by first | (with_reducible first | assumption | exact m20 (by assumption) (by assumption) | exact ga20 (by assumption) (by assumption) | exact w2 (by assumption) | exact w2 (min4 (by assumption)) | exact w2 (s46 (by assumption)) | exact min4 (by assumption) | exact s46 (by assumption) | exact min11 (by assumption) (by assumption)) | (unfold vp_in; decide) | ((with_reducible (repeat (first | assumption | (refine sf_lays ?_ ?_ ?_; (with_reducible first | assumption | exact m20 (by assumption) (by assumption) | exact ga20 (by assumption) (by assumption)); (with_reducible first | exact v11_0 | exact v11_1 | exact v11_6 | exact v11_7 | exact v11_8 | exact v11_9 | exact v11_10 | exact w2 (by assumption) | exact w2 (min4 (by assumption)))) | (refine sf_adds ?_ ?_; (with_reducible first | exact v8_0 | exact v8_1 | exact v8_2 | exact v8_3 | exact v8_4 | exact v8_5 | exact v8_6 | exact v8_7)) | (refine sf_u (by omega) ?_)))); done))) (cwV 2 hts gX6_room_X6_of rfl rfl rfl (by decide +kernel) ⟨Nat.le_of_ble_eq_true rfl, Nat.le_of_ble_eq_true rfl⟩) hP hK hX hS 0 5 md_0 rfl rfl hl.1 rfl (Nat.le_of_ble_eq_true rfl) dX6_room_3 ⟨Nat.zero_le _, Nat.zero_le _⟩ ?_
  refine lv_aload_n hx hb dX6_room_6 rfl (lv_at hl 0 rfl) ?_
  refine lv_iload_n hx hb dX6_room_7 rfl (lv_at hl 1 rfl) ?_
  refine lv_bipush (v := 7) hx hb dX6_room_8 (by decide) ?_
  refine roV CF (c_X6_of l D cI cC cW t _ _ _ _ _ (by first | (with_reducible first | assumption | exact m20 (by assumption) (by assumption) | exact ga20 (by assumption) (by assumption) | exact w2 (by assumption) | exact w2 (min4 (by assumption)) | exact w2 (s46 (by assumption)) | exact min4 (by assumption) | exact s46 (by assumption) | exact min11 (by assumption) (by assumption)) | (unfold vp_in; decide) | ((with_reducible (repeat (first | assumption | (refine sf_lays ?_ ?_ ?_; (with_reducible first | assumption | exact m20 (by assumption) (by assumption) | exact ga20 (by assumption) (by assumption)); (with_reducible first | exact v11_0 | exact v11_1 | exact v11_6 | exact v11_7 | exact v11_8 | exact v11_9 | exact v11_10 | exact w2 (by assumption) | exact w2 (min4 (by assumption)))) | (refine sf_adds ?_ ?_; (with_reducible first | exact v8_0 | exact v8_1 | exact v8_2 | exact v8_3 | exact v8_4 | exact v8_5 | exact v8_6 | exact v8_7)) | (refine sf_u (by omega) ?_)))); done)) (by first | (with_reducible first | assumption | exact m20 (by assumption) (by assumption) | exact ga20 (by assumption) (by assumption) | exact w2 (by assumption) | exact w2 (min4 (by assumption)) | exact w2 (s46 (by assumption)) | exact min4 (by assumption) | exact s46 (by assumption) | exact min11 (by assumption) (by assumption)) | (unfold vp_in; decide) | ((with_reducible (repeat (first | assumption | (refine sf_lays ?_ ?_ ?_; (with_reducible first | assumption | exact m20 (by assumption) (by assumption) | exact ga20 (by assumption) (by assumption)); (with_reducible first | exact v11_0 | exact v11_1 | exact v11_6 | exact v11_7 | exact v11_8 | exact v11_9 | exact v11_10 | exact w2 (by assumption) | exact w2 (min4 (by assumption)))) | (refine sf_adds ?_ ?_; (with_reducible first | exact v8_0 | exact v8_1 | exact v8_2 | exact v8_3 | exact v8_4 | exact v8_5 | exact v8_6 | exact v8_7)) | (refine sf_u (by omega) ?_)))); done))) (cwV 2 hts gX6_room_X6_of rfl rfl rfl (by decide +kernel) ⟨Nat.le_of_ble_eq_true rfl, Nat.le_of_ble_eq_true rfl⟩) hP hK hX hS 0 5 md_0 rfl rfl hl.1 rfl (Nat.le_of_ble_eq_true rfl) dX6_room_10 ⟨Nat.zero_le _, Nat.zero_le _⟩ ?_
  refine lv_isub hx hb dX6_room_13 ?_
  refine lv_istore_n (lv' := [(2, .int _), (0, .ref _), (1, .int _)]) hx hb dX6_room_14 rfl hl (by decide) rfl (fun ls hl => ?_)
  refine lv_iload_n hx hb dX6_room_15 rfl (lv_at hl 0 rfl) ?_
  refine lv_aload_n hx hb dX6_room_16 rfl (lv_at hl 1 rfl) ?_
  refine lv_iload_n hx hb dX6_room_17 rfl (lv_at hl 2 rfl) ?_
  refine lv_bipush (v := 8) hx hb dX6_room_18 (by decide) ?_
  refine roV CF (c_X6_of l D cI cC cW t _ _ _ _ _ (by first | (with_reducible first | assumption | exact m20 (by assumption) (by assumption) | exact ga20 (by assumption) (by assumption) | exact w2 (by assumption) | exact w2 (min4 (by assumption)) | exact w2 (s46 (by assumption)) | exact min4 (by assumption) | exact s46 (by assumption) | exact min11 (by assumption) (by assumption)) | (unfold vp_in; decide) | ((with_reducible (repeat (first | assumption | (refine sf_lays ?_ ?_ ?_; (with_reducible first | assumption | exact m20 (by assumption) (by assumption) | exact ga20 (by assumption) (by assumption)); (with_reducible first | exact v11_0 | exact v11_1 | exact v11_6 | exact v11_7 | exact v11_8 | exact v11_9 | exact v11_10 | exact w2 (by assumption) | exact w2 (min4 (by assumption)))) | (refine sf_adds ?_ ?_; (with_reducible first | exact v8_0 | exact v8_1 | exact v8_2 | exact v8_3 | exact v8_4 | exact v8_5 | exact v8_6 | exact v8_7)) | (refine sf_u (by omega) ?_)))); done)) (by first | (with_reducible first | assumption | exact m20 (by assumption) (by assumption) | exact ga20 (by assumption) (by assumption) | exact w2 (by assumption) | exact w2 (min4 (by assumption)) | exact w2 (s46 (by assumption)) | exact min4 (by assumption) | exact s46 (by assumption) | exact min11 (by assumption) (by assumption)) | (unfold vp_in; decide) | ((with_reducible (repeat (first | assumption | (refine sf_lays ?_ ?_ ?_; (with_reducible first | assumption | exact m20 (by assumption) (by assumption) | exact ga20 (by assumption) (by assumption)); (with_reducible first | exact v11_0 | exact v11_1 | exact v11_6 | exact v11_7 | exact v11_8 | exact v11_9 | exact v11_10 | exact w2 (by assumption) | exact w2 (min4 (by assumption)))) | (refine sf_adds ?_ ?_; (with_reducible first | exact v8_0 | exact v8_1 | exact v8_2 | exact v8_3 | exact v8_4 | exact v8_5 | exact v8_6 | exact v8_7)) | (refine sf_u (by omega) ?_)))); done))) (cwV 2 hts gX6_room_X6_of rfl rfl rfl (by decide +kernel) ⟨Nat.le_of_ble_eq_true rfl, Nat.le_of_ble_eq_true rfl⟩) hP hK hX hS 0 5 md_0 rfl rfl hl.1 rfl (Nat.le_of_ble_eq_true rfl) dX6_room_20 ⟨Nat.zero_le _, Nat.zero_le _⟩ ?_
  refine lv_icmp_ge (tgt := 30) hx hb dX6_room_23 (by decide) (fun c23 => ?_) (fun c23 => ?_)
  · refine lv_aload_n hx hb dX6_room_30 rfl (lv_at hl 1 rfl) ?_
    refine lv_iload_n hx hb dX6_room_31 rfl (lv_at hl 2 rfl) ?_
    refine lv_bipush (v := 8) hx hb dX6_room_32 (by decide) ?_
    refine roV CF (c_X6_of l D cI cC cW t _ _ _ _ _ (by first | (with_reducible first | assumption | exact m20 (by assumption) (by assumption) | exact ga20 (by assumption) (by assumption) | exact w2 (by assumption) | exact w2 (min4 (by assumption)) | exact w2 (s46 (by assumption)) | exact min4 (by assumption) | exact s46 (by assumption) | exact min11 (by assumption) (by assumption)) | (unfold vp_in; decide) | ((with_reducible (repeat (first | assumption | (refine sf_lays ?_ ?_ ?_; (with_reducible first | assumption | exact m20 (by assumption) (by assumption) | exact ga20 (by assumption) (by assumption)); (with_reducible first | exact v11_0 | exact v11_1 | exact v11_6 | exact v11_7 | exact v11_8 | exact v11_9 | exact v11_10 | exact w2 (by assumption) | exact w2 (min4 (by assumption)))) | (refine sf_adds ?_ ?_; (with_reducible first | exact v8_0 | exact v8_1 | exact v8_2 | exact v8_3 | exact v8_4 | exact v8_5 | exact v8_6 | exact v8_7)) | (refine sf_u (by omega) ?_)))); done)) (by first | (with_reducible first | assumption | exact m20 (by assumption) (by assumption) | exact ga20 (by assumption) (by assumption) | exact w2 (by assumption) | exact w2 (min4 (by assumption)) | exact w2 (s46 (by assumption)) | exact min4 (by assumption) | exact s46 (by assumption) | exact min11 (by assumption) (by assumption)) | (unfold vp_in; decide) | ((with_reducible (repeat (first | assumption | (refine sf_lays ?_ ?_ ?_; (with_reducible first | assumption | exact m20 (by assumption) (by assumption) | exact ga20 (by assumption) (by assumption)); (with_reducible first | exact v11_0 | exact v11_1 | exact v11_6 | exact v11_7 | exact v11_8 | exact v11_9 | exact v11_10 | exact w2 (by assumption) | exact w2 (min4 (by assumption)))) | (refine sf_adds ?_ ?_; (with_reducible first | exact v8_0 | exact v8_1 | exact v8_2 | exact v8_3 | exact v8_4 | exact v8_5 | exact v8_6 | exact v8_7)) | (refine sf_u (by omega) ?_)))); done))) (cwV 2 hts gX6_room_X6_of rfl rfl rfl (by decide +kernel) ⟨Nat.le_of_ble_eq_true rfl, Nat.le_of_ble_eq_true rfl⟩) hP hK hX hS 0 5 md_0 rfl rfl hl.1 rfl (Nat.le_of_ble_eq_true rfl) dX6_room_34 ⟨Nat.zero_le _, Nat.zero_le _⟩ ?_
    exact ro_ret hx hb hr (Eq.trans (if_pos c23) (rfl)) dX6_room_37 hlocks
  · refine lv_iload_n hx hb dX6_room_26 rfl (lv_at hl 0 rfl) ?_
    refine lv_goto (tgt := 37) hx hb dX6_room_27 (by decide) ?_
    exact ro_ret hx hb hr (Eq.trans (if_neg c23) (rfl)) dX6_room_37 hlocks

def sp_X6_brings (N : Nat → Int32) (Z : Nat → Nat → Int32) (x1 x2 : Int32) : Int32 × (Nat → Int32) :=
  let k58_1 : Nat → Int32 := sp_X6_lays N Z x1 (8 : Int32) ((sp_X6_of N Z x1 (8 : Int32)) - x2); let k74_2 : Nat → Int32 := sp_X6_lays k58_1 Z x1 (7 : Int32) ((sp_X6_of k58_1 Z x1 (7 : Int32)) + x2); let k81_3 : Nat → Int32 := sp_X6_adds k74_2 Z (3 : Int32) ((((x2 * (sp_X6_of N Z x1 (0 : Int32))) + (N 3)) - (1 : Int32)) / (N 3)); let k88_4 : Nat → Int32 := sp_X6_adds k81_3 Z (1 : Int32) (((((x2 * (sp_X6_of N Z x1 (0 : Int32))) + (N 3)) - (1 : Int32)) / (N 3)) * ((N 2) + (sp_X6_walk (sp_X6_of N Z x1 (6 : Int32))))); ((((((x2 * (sp_X6_of N Z x1 (0 : Int32))) + (N 3)) - (1 : Int32)) / (N 3)) * ((N 2) + (sp_X6_walk (sp_X6_of N Z x1 (6 : Int32))))), k88_4)
set_option maxHeartbeats 4000000 in
set_option maxRecDepth 100000 in
theorem c_X6_brings (l : Launch) (D : va_G) (cI cC cW : ClassId) (t : Nat → Nat) (a : Nat → Nat) (sz : Nat) (N : Nat → Int32) (Z : Nat → Nat → Int32) (x1 x2 : Int32) (h1 : vp_in x1 20) (hld : ¬ N 3 = 0) : Met l yX6_brings wsX6_brings ({ frames := 2, cells := 0, slots := 0, locals := 41 }) (va_Pc [.ref (a 0), .int x1, .int x2] (rwP D (tyL cI cC cW) (md cI a N Z) t sz)) (va_Qi (fun (r : Int32) (u : Nat → Int32) => (r, u) = sp_X6_brings N Z x1 x2) (fun u => rwB D (va_A (md cI a N Z) sz) (md cI a u Z)) (va_A (md cI a N Z) sz)) 0 0 (va_A (md cI a N Z) sz) := by
  refine Met.ofW (cc := cX6_brings) (maxL := 6) (ret := (some .int)) (by decide) rfl ?_
  intro p e s m args below meth c s₁ B hml hv
  obtain ⟨rfl, hsz, hP, hK, hD0, hX⟩ := hv
  have hx := B.exec
  have hb := B.bytes
  have hr := B.returns
  have hts := atoms_spec (ws := wsX6_brings) B.pre
  have hown : s.vm.findClass RX6 = some m.cls := findClass_of_methodNamed B.named
  have hlocks := B.notSynchronized
  subst hsz
  have hD := hD0.self (sz := s.heap.size)
  generalize hAe : va_A (md cI a N Z) s.heap.size = A at hD hX ⊢
  have hA : ∀ q : Nat, s.heap.size ≤ q → A q := fun q h => by rw [← hAe]; exact Or.inr h
  have hS : va_S A s.heap s.heap [] := va_S.rf
  have wd1 : (Cond.fieldLink RX6 7 "PickSlotsModel" "now" "[I").before [.ref (a 0), .int x1, .int x2].toArray s = true := hts _ (List.mem_of_getElem? (i := 1) rfl)
  have hi6 : ∀ w ∈ wsX60, w ∈ wsX6_brings := fun w h => List.mem_cons_of_mem _ (List.mem_append_right _ (h))
  have CF : CallFix p m c cX6_brings 6 s [.ref (a 0), .int x1, .int x2].toArray wsX6_brings RX6 := ⟨hx, hb, hml, hown, hts⟩
  have hl := lv_entry ([.ref (a 0), .int x1, .int x2]) (n := 6) (Nat.le_of_ble_eq_true rfl)
  rw [lg_entry_eq]
  generalize (lg_sl ([.ref (a 0), .int x1, .int x2]) ++ List.replicate (6 - (lg_sl ([.ref (a 0), .int x1, .int x2])).length) Slot.unset).toArray = ls at hl ⊢
  have hl : lv_has ls 6 [(0, .ref (a 0)), (1, .int x1), (2, .int x2)] := hl
  refine lv_aload_n hx hb dX6_brings_0 rfl (lv_at hl 0 rfl) ?_
  refine va_get (D := D) (ci := 5) (C := RX6) (T := TX6) (N := 17) hx hb hts hi6 hown hK hP 0 md_0 rfl 0 (by decide) wd1 (fun _ h9 => h9) rfl dX6_brings_1 ?_
  refine lv_iconst (v := 3) hx hb dX6_brings_4 (by decide) ?_
  refine my_ialdK (k := 3) hx hb hK hP 1 0 md_1 rfl (by decide) (by first | (with_reducible first | assumption | exact m20 (by assumption) (by assumption) | exact ga20 (by assumption) (by assumption) | exact w2 (by assumption) | exact w2 (min4 (by assumption)) | exact w2 (s46 (by assumption)) | exact min4 (by assumption) | exact s46 (by assumption) | exact min11 (by assumption) (by assumption)) | (unfold vp_in; decide) | ((with_reducible (repeat (first | assumption | (refine sf_lays ?_ ?_ ?_; (with_reducible first | assumption | exact m20 (by assumption) (by assumption) | exact ga20 (by assumption) (by assumption)); (with_reducible first | exact v11_0 | exact v11_1 | exact v11_6 | exact v11_7 | exact v11_8 | exact v11_9 | exact v11_10 | exact w2 (by assumption) | exact w2 (min4 (by assumption)))) | (refine sf_adds ?_ ?_; (with_reducible first | exact v8_0 | exact v8_1 | exact v8_2 | exact v8_3 | exact v8_4 | exact v8_5 | exact v8_6 | exact v8_7)) | (refine sf_u (by omega) ?_)))); done)) dX6_brings_5 ?_
  refine lv_istore_n (lv' := [(3, .int _), (0, .ref _), (1, .int _), (2, .int _)]) hx hb dX6_brings_6 rfl hl (by decide) rfl (fun ls hl => ?_)
  refine lv_iload_n hx hb dX6_brings_7 rfl (lv_at hl 3 rfl) ?_
  refine lv_aload_n hx hb dX6_brings_8 rfl (lv_at hl 1 rfl) ?_
  refine lv_iload_n hx hb dX6_brings_9 rfl (lv_at hl 2 rfl) ?_
  refine lv_iconst (v := 0) hx hb dX6_brings_10 (by decide) ?_
  refine roV CF (c_X6_of l D cI cC cW t _ _ _ _ _ (by first | (with_reducible first | assumption | exact m20 (by assumption) (by assumption) | exact ga20 (by assumption) (by assumption) | exact w2 (by assumption) | exact w2 (min4 (by assumption)) | exact w2 (s46 (by assumption)) | exact min4 (by assumption) | exact s46 (by assumption) | exact min11 (by assumption) (by assumption)) | (unfold vp_in; decide) | ((with_reducible (repeat (first | assumption | (refine sf_lays ?_ ?_ ?_; (with_reducible first | assumption | exact m20 (by assumption) (by assumption) | exact ga20 (by assumption) (by assumption)); (with_reducible first | exact v11_0 | exact v11_1 | exact v11_6 | exact v11_7 | exact v11_8 | exact v11_9 | exact v11_10 | exact w2 (by assumption) | exact w2 (min4 (by assumption)))) | (refine sf_adds ?_ ?_; (with_reducible first | exact v8_0 | exact v8_1 | exact v8_2 | exact v8_3 | exact v8_4 | exact v8_5 | exact v8_6 | exact v8_7)) | (refine sf_u (by omega) ?_)))); done)) (by first | (with_reducible first | assumption | exact m20 (by assumption) (by assumption) | exact ga20 (by assumption) (by assumption) | exact w2 (by assumption) | exact w2 (min4 (by assumption)) | exact w2 (s46 (by assumption)) | exact min4 (by assumption) | exact s46 (by assumption) | exact min11 (by assumption) (by assumption)) | (unfold vp_in; decide) | ((with_reducible (repeat (first | assumption | (refine sf_lays ?_ ?_ ?_; (with_reducible first | assumption | exact m20 (by assumption) (by assumption) | exact ga20 (by assumption) (by assumption)); (with_reducible first | exact v11_0 | exact v11_1 | exact v11_6 | exact v11_7 | exact v11_8 | exact v11_9 | exact v11_10 | exact w2 (by assumption) | exact w2 (min4 (by assumption)))) | (refine sf_adds ?_ ?_; (with_reducible first | exact v8_0 | exact v8_1 | exact v8_2 | exact v8_3 | exact v8_4 | exact v8_5 | exact v8_6 | exact v8_7)) | (refine sf_u (by omega) ?_)))); done))) (cwV 2 hts gX6_brings_X6_of rfl rfl rfl (by decide +kernel) ⟨Nat.le_of_ble_eq_true rfl, Nat.le_of_ble_eq_true rfl⟩) hP hK hX hS 0 5 md_0 rfl rfl hl.1 rfl (Nat.le_of_ble_eq_true rfl) dX6_brings_11 ⟨Nat.zero_le _, Nat.zero_le _⟩ ?_
  refine lv_imul hx hb dX6_brings_14 ?_
  refine lv_iload_n hx hb dX6_brings_15 rfl (lv_at hl 0 rfl) ?_
  refine lv_iadd hx hb dX6_brings_16 ?_
  refine lv_iconst (v := 1) hx hb dX6_brings_17 (by decide) ?_
  refine lv_isub hx hb dX6_brings_18 ?_
  refine lv_iload_n hx hb dX6_brings_19 rfl (lv_at hl 0 rfl) ?_
  refine lv_idiv hx hb dX6_brings_20 (by first | assumption | decide) ?_
  refine lv_istore (lv' := [(4, .int _), (3, .int _), (0, .ref _), (1, .int _), (2, .int _)]) hx hb dX6_brings_21 hl (by decide) rfl (fun ls hl => ?_)
  refine lv_iload hx hb dX6_brings_23 (lv_at hl 0 rfl) ?_
  refine lv_aload_n hx hb dX6_brings_25 rfl (lv_at hl 2 rfl) ?_
  refine va_get (D := D) (ci := 5) (C := RX6) (T := TX6) (N := 17) hx hb hts hi6 hown hK hP 0 md_0 rfl 0 (by decide) wd1 (fun _ h9 => h9) rfl dX6_brings_26 ?_
  refine lv_iconst (v := 2) hx hb dX6_brings_29 (by decide) ?_
  refine my_ialdK (k := 2) hx hb hK hP 1 0 md_1 rfl (by decide) (by first | (with_reducible first | assumption | exact m20 (by assumption) (by assumption) | exact ga20 (by assumption) (by assumption) | exact w2 (by assumption) | exact w2 (min4 (by assumption)) | exact w2 (s46 (by assumption)) | exact min4 (by assumption) | exact s46 (by assumption) | exact min11 (by assumption) (by assumption)) | (unfold vp_in; decide) | ((with_reducible (repeat (first | assumption | (refine sf_lays ?_ ?_ ?_; (with_reducible first | assumption | exact m20 (by assumption) (by assumption) | exact ga20 (by assumption) (by assumption)); (with_reducible first | exact v11_0 | exact v11_1 | exact v11_6 | exact v11_7 | exact v11_8 | exact v11_9 | exact v11_10 | exact w2 (by assumption) | exact w2 (min4 (by assumption)))) | (refine sf_adds ?_ ?_; (with_reducible first | exact v8_0 | exact v8_1 | exact v8_2 | exact v8_3 | exact v8_4 | exact v8_5 | exact v8_6 | exact v8_7)) | (refine sf_u (by omega) ?_)))); done)) dX6_brings_30 ?_
  refine lv_aload_n hx hb dX6_brings_31 rfl (lv_at hl 2 rfl) ?_
  refine lv_iload_n hx hb dX6_brings_32 rfl (lv_at hl 3 rfl) ?_
  refine lv_bipush (v := 6) hx hb dX6_brings_33 (by decide) ?_
  refine roV CF (c_X6_of l D cI cC cW t _ _ _ _ _ (by first | (with_reducible first | assumption | exact m20 (by assumption) (by assumption) | exact ga20 (by assumption) (by assumption) | exact w2 (by assumption) | exact w2 (min4 (by assumption)) | exact w2 (s46 (by assumption)) | exact min4 (by assumption) | exact s46 (by assumption) | exact min11 (by assumption) (by assumption)) | (unfold vp_in; decide) | ((with_reducible (repeat (first | assumption | (refine sf_lays ?_ ?_ ?_; (with_reducible first | assumption | exact m20 (by assumption) (by assumption) | exact ga20 (by assumption) (by assumption)); (with_reducible first | exact v11_0 | exact v11_1 | exact v11_6 | exact v11_7 | exact v11_8 | exact v11_9 | exact v11_10 | exact w2 (by assumption) | exact w2 (min4 (by assumption)))) | (refine sf_adds ?_ ?_; (with_reducible first | exact v8_0 | exact v8_1 | exact v8_2 | exact v8_3 | exact v8_4 | exact v8_5 | exact v8_6 | exact v8_7)) | (refine sf_u (by omega) ?_)))); done)) (by first | (with_reducible first | assumption | exact m20 (by assumption) (by assumption) | exact ga20 (by assumption) (by assumption) | exact w2 (by assumption) | exact w2 (min4 (by assumption)) | exact w2 (s46 (by assumption)) | exact min4 (by assumption) | exact s46 (by assumption) | exact min11 (by assumption) (by assumption)) | (unfold vp_in; decide) | ((with_reducible (repeat (first | assumption | (refine sf_lays ?_ ?_ ?_; (with_reducible first | assumption | exact m20 (by assumption) (by assumption) | exact ga20 (by assumption) (by assumption)); (with_reducible first | exact v11_0 | exact v11_1 | exact v11_6 | exact v11_7 | exact v11_8 | exact v11_9 | exact v11_10 | exact w2 (by assumption) | exact w2 (min4 (by assumption)))) | (refine sf_adds ?_ ?_; (with_reducible first | exact v8_0 | exact v8_1 | exact v8_2 | exact v8_3 | exact v8_4 | exact v8_5 | exact v8_6 | exact v8_7)) | (refine sf_u (by omega) ?_)))); done))) (cwV 2 hts gX6_brings_X6_of rfl rfl rfl (by decide +kernel) ⟨Nat.le_of_ble_eq_true rfl, Nat.le_of_ble_eq_true rfl⟩) hP hK hX hS 0 5 md_0 rfl rfl hl.1 rfl (Nat.le_of_ble_eq_true rfl) dX6_brings_35 ⟨Nat.zero_le _, Nat.zero_le _⟩ ?_
  refine roS CF (c_X6_walk l D cI cC cW t _ ) (va_cwS 1 hts gX6_brings_X6_walk rfl rfl rfl (by decide +kernel) ⟨Nat.le_of_ble_eq_true rfl, Nat.le_of_ble_eq_true rfl⟩) vP_nil hK hX hS rfl hl.1 rfl (Nat.le_of_ble_eq_true rfl) dX6_brings_38 ⟨Nat.zero_le _, Nat.zero_le _⟩ ?_
  refine lv_iadd hx hb dX6_brings_41 ?_
  refine lv_imul hx hb dX6_brings_42 ?_
  refine lv_istore (lv' := [(5, .int _), (4, .int _), (3, .int _), (0, .ref _), (1, .int _), (2, .int _)]) hx hb dX6_brings_43 hl (by decide) rfl (fun ls hl => ?_)
  refine lv_aload_n hx hb dX6_brings_45 rfl (lv_at hl 3 rfl) ?_
  refine lv_iload_n hx hb dX6_brings_46 rfl (lv_at hl 4 rfl) ?_
  refine lv_bipush (v := 8) hx hb dX6_brings_47 (by decide) ?_
  refine lv_aload_n hx hb dX6_brings_49 rfl (lv_at hl 3 rfl) ?_
  refine lv_iload_n hx hb dX6_brings_50 rfl (lv_at hl 4 rfl) ?_
  refine lv_bipush (v := 8) hx hb dX6_brings_51 (by decide) ?_
  refine roV CF (c_X6_of l D cI cC cW t _ _ _ _ _ (by first | (with_reducible first | assumption | exact m20 (by assumption) (by assumption) | exact ga20 (by assumption) (by assumption) | exact w2 (by assumption) | exact w2 (min4 (by assumption)) | exact w2 (s46 (by assumption)) | exact min4 (by assumption) | exact s46 (by assumption) | exact min11 (by assumption) (by assumption)) | (unfold vp_in; decide) | ((with_reducible (repeat (first | assumption | (refine sf_lays ?_ ?_ ?_; (with_reducible first | assumption | exact m20 (by assumption) (by assumption) | exact ga20 (by assumption) (by assumption)); (with_reducible first | exact v11_0 | exact v11_1 | exact v11_6 | exact v11_7 | exact v11_8 | exact v11_9 | exact v11_10 | exact w2 (by assumption) | exact w2 (min4 (by assumption)))) | (refine sf_adds ?_ ?_; (with_reducible first | exact v8_0 | exact v8_1 | exact v8_2 | exact v8_3 | exact v8_4 | exact v8_5 | exact v8_6 | exact v8_7)) | (refine sf_u (by omega) ?_)))); done)) (by first | (with_reducible first | assumption | exact m20 (by assumption) (by assumption) | exact ga20 (by assumption) (by assumption) | exact w2 (by assumption) | exact w2 (min4 (by assumption)) | exact w2 (s46 (by assumption)) | exact min4 (by assumption) | exact s46 (by assumption) | exact min11 (by assumption) (by assumption)) | (unfold vp_in; decide) | ((with_reducible (repeat (first | assumption | (refine sf_lays ?_ ?_ ?_; (with_reducible first | assumption | exact m20 (by assumption) (by assumption) | exact ga20 (by assumption) (by assumption)); (with_reducible first | exact v11_0 | exact v11_1 | exact v11_6 | exact v11_7 | exact v11_8 | exact v11_9 | exact v11_10 | exact w2 (by assumption) | exact w2 (min4 (by assumption)))) | (refine sf_adds ?_ ?_; (with_reducible first | exact v8_0 | exact v8_1 | exact v8_2 | exact v8_3 | exact v8_4 | exact v8_5 | exact v8_6 | exact v8_7)) | (refine sf_u (by omega) ?_)))); done))) (cwV 2 hts gX6_brings_X6_of rfl rfl rfl (by decide +kernel) ⟨Nat.le_of_ble_eq_true rfl, Nat.le_of_ble_eq_true rfl⟩) hP hK hX hS 0 5 md_0 rfl rfl hl.1 rfl (Nat.le_of_ble_eq_true rfl) dX6_brings_53 ⟨Nat.zero_le _, Nat.zero_le _⟩ ?_
  refine lv_iload_n hx hb dX6_brings_56 rfl (lv_at hl 5 rfl) ?_
  refine lv_isub hx hb dX6_brings_57 ?_
  refine rwVv CF (c_X6_lays l D cI cC cW t _ _ _ _ _ _ _ (by first | (with_reducible first | assumption | exact m20 (by assumption) (by assumption) | exact ga20 (by assumption) (by assumption) | exact w2 (by assumption) | exact w2 (min4 (by assumption)) | exact w2 (s46 (by assumption)) | exact min4 (by assumption) | exact s46 (by assumption) | exact min11 (by assumption) (by assumption)) | (unfold vp_in; decide) | ((with_reducible (repeat (first | assumption | (refine sf_lays ?_ ?_ ?_; (with_reducible first | assumption | exact m20 (by assumption) (by assumption) | exact ga20 (by assumption) (by assumption)); (with_reducible first | exact v11_0 | exact v11_1 | exact v11_6 | exact v11_7 | exact v11_8 | exact v11_9 | exact v11_10 | exact w2 (by assumption) | exact w2 (min4 (by assumption)))) | (refine sf_adds ?_ ?_; (with_reducible first | exact v8_0 | exact v8_1 | exact v8_2 | exact v8_3 | exact v8_4 | exact v8_5 | exact v8_6 | exact v8_7)) | (refine sf_u (by omega) ?_)))); done)) (by first | (with_reducible first | assumption | exact m20 (by assumption) (by assumption) | exact ga20 (by assumption) (by assumption) | exact w2 (by assumption) | exact w2 (min4 (by assumption)) | exact w2 (s46 (by assumption)) | exact min4 (by assumption) | exact s46 (by assumption) | exact min11 (by assumption) (by assumption)) | (unfold vp_in; decide) | ((with_reducible (repeat (first | assumption | (refine sf_lays ?_ ?_ ?_; (with_reducible first | assumption | exact m20 (by assumption) (by assumption) | exact ga20 (by assumption) (by assumption)); (with_reducible first | exact v11_0 | exact v11_1 | exact v11_6 | exact v11_7 | exact v11_8 | exact v11_9 | exact v11_10 | exact w2 (by assumption) | exact w2 (min4 (by assumption)))) | (refine sf_adds ?_ ?_; (with_reducible first | exact v8_0 | exact v8_1 | exact v8_2 | exact v8_3 | exact v8_4 | exact v8_5 | exact v8_6 | exact v8_7)) | (refine sf_u (by omega) ?_)))); done))) (cwV 3 hts gX6_brings_X6_lays rfl rfl rfl (by decide +kernel) ⟨Nat.le_of_ble_eq_true rfl, Nat.le_of_ble_eq_true rfl⟩) hP hD hK hX hS hA 0 5 md_0 rfl rfl hl.1 rfl (Nat.le_of_ble_eq_true rfl) dX6_brings_58 ⟨Nat.zero_le _, Nat.zero_le _⟩ (fun H locs hP hD hS => ?_)
  refine lv_aload_n hx hb dX6_brings_61 rfl (lv_at hl 3 rfl) ?_
  refine lv_iload_n hx hb dX6_brings_62 rfl (lv_at hl 4 rfl) ?_
  refine lv_bipush (v := 7) hx hb dX6_brings_63 (by decide) ?_
  refine lv_aload_n hx hb dX6_brings_65 rfl (lv_at hl 3 rfl) ?_
  refine lv_iload_n hx hb dX6_brings_66 rfl (lv_at hl 4 rfl) ?_
  refine lv_bipush (v := 7) hx hb dX6_brings_67 (by decide) ?_
  refine roV CF (c_X6_of l D cI cC cW t _ _ _ _ _ (by first | (with_reducible first | assumption | exact m20 (by assumption) (by assumption) | exact ga20 (by assumption) (by assumption) | exact w2 (by assumption) | exact w2 (min4 (by assumption)) | exact w2 (s46 (by assumption)) | exact min4 (by assumption) | exact s46 (by assumption) | exact min11 (by assumption) (by assumption)) | (unfold vp_in; decide) | ((with_reducible (repeat (first | assumption | (refine sf_lays ?_ ?_ ?_; (with_reducible first | assumption | exact m20 (by assumption) (by assumption) | exact ga20 (by assumption) (by assumption)); (with_reducible first | exact v11_0 | exact v11_1 | exact v11_6 | exact v11_7 | exact v11_8 | exact v11_9 | exact v11_10 | exact w2 (by assumption) | exact w2 (min4 (by assumption)))) | (refine sf_adds ?_ ?_; (with_reducible first | exact v8_0 | exact v8_1 | exact v8_2 | exact v8_3 | exact v8_4 | exact v8_5 | exact v8_6 | exact v8_7)) | (refine sf_u (by omega) ?_)))); done)) (by first | (with_reducible first | assumption | exact m20 (by assumption) (by assumption) | exact ga20 (by assumption) (by assumption) | exact w2 (by assumption) | exact w2 (min4 (by assumption)) | exact w2 (s46 (by assumption)) | exact min4 (by assumption) | exact s46 (by assumption) | exact min11 (by assumption) (by assumption)) | (unfold vp_in; decide) | ((with_reducible (repeat (first | assumption | (refine sf_lays ?_ ?_ ?_; (with_reducible first | assumption | exact m20 (by assumption) (by assumption) | exact ga20 (by assumption) (by assumption)); (with_reducible first | exact v11_0 | exact v11_1 | exact v11_6 | exact v11_7 | exact v11_8 | exact v11_9 | exact v11_10 | exact w2 (by assumption) | exact w2 (min4 (by assumption)))) | (refine sf_adds ?_ ?_; (with_reducible first | exact v8_0 | exact v8_1 | exact v8_2 | exact v8_3 | exact v8_4 | exact v8_5 | exact v8_6 | exact v8_7)) | (refine sf_u (by omega) ?_)))); done))) (cwV 2 hts gX6_brings_X6_of rfl rfl rfl (by decide +kernel) ⟨Nat.le_of_ble_eq_true rfl, Nat.le_of_ble_eq_true rfl⟩) hP hK hX hS 0 5 md_0 rfl rfl hl.1 rfl (Nat.le_of_ble_eq_true rfl) dX6_brings_69 ⟨Nat.zero_le _, Nat.zero_le _⟩ ?_
  refine lv_iload_n hx hb dX6_brings_72 rfl (lv_at hl 5 rfl) ?_
  refine lv_iadd hx hb dX6_brings_73 ?_
  refine rwVv CF (c_X6_lays l D cI cC cW t _ _ _ _ _ _ _ (by first | (with_reducible first | assumption | exact m20 (by assumption) (by assumption) | exact ga20 (by assumption) (by assumption) | exact w2 (by assumption) | exact w2 (min4 (by assumption)) | exact w2 (s46 (by assumption)) | exact min4 (by assumption) | exact s46 (by assumption) | exact min11 (by assumption) (by assumption)) | (unfold vp_in; decide) | ((with_reducible (repeat (first | assumption | (refine sf_lays ?_ ?_ ?_; (with_reducible first | assumption | exact m20 (by assumption) (by assumption) | exact ga20 (by assumption) (by assumption)); (with_reducible first | exact v11_0 | exact v11_1 | exact v11_6 | exact v11_7 | exact v11_8 | exact v11_9 | exact v11_10 | exact w2 (by assumption) | exact w2 (min4 (by assumption)))) | (refine sf_adds ?_ ?_; (with_reducible first | exact v8_0 | exact v8_1 | exact v8_2 | exact v8_3 | exact v8_4 | exact v8_5 | exact v8_6 | exact v8_7)) | (refine sf_u (by omega) ?_)))); done)) (by first | (with_reducible first | assumption | exact m20 (by assumption) (by assumption) | exact ga20 (by assumption) (by assumption) | exact w2 (by assumption) | exact w2 (min4 (by assumption)) | exact w2 (s46 (by assumption)) | exact min4 (by assumption) | exact s46 (by assumption) | exact min11 (by assumption) (by assumption)) | (unfold vp_in; decide) | ((with_reducible (repeat (first | assumption | (refine sf_lays ?_ ?_ ?_; (with_reducible first | assumption | exact m20 (by assumption) (by assumption) | exact ga20 (by assumption) (by assumption)); (with_reducible first | exact v11_0 | exact v11_1 | exact v11_6 | exact v11_7 | exact v11_8 | exact v11_9 | exact v11_10 | exact w2 (by assumption) | exact w2 (min4 (by assumption)))) | (refine sf_adds ?_ ?_; (with_reducible first | exact v8_0 | exact v8_1 | exact v8_2 | exact v8_3 | exact v8_4 | exact v8_5 | exact v8_6 | exact v8_7)) | (refine sf_u (by omega) ?_)))); done))) (cwV 3 hts gX6_brings_X6_lays rfl rfl rfl (by decide +kernel) ⟨Nat.le_of_ble_eq_true rfl, Nat.le_of_ble_eq_true rfl⟩) hP hD hK hX hS hA 0 5 md_0 rfl rfl hl.1 rfl (Nat.le_of_ble_eq_true rfl) dX6_brings_74 ⟨Nat.zero_le _, Nat.zero_le _⟩ (fun H locs hP hD hS => ?_)
  refine lv_aload_n hx hb dX6_brings_77 rfl (lv_at hl 3 rfl) ?_
  refine lv_iconst (v := 3) hx hb dX6_brings_78 (by decide) ?_
  refine lv_iload hx hb dX6_brings_79 (lv_at hl 1 rfl) ?_
  refine rwVv CF (c_X6_adds l D cI cC cW t _ _ _ _ _ _ (by first | (with_reducible first | assumption | exact m20 (by assumption) (by assumption) | exact ga20 (by assumption) (by assumption) | exact w2 (by assumption) | exact w2 (min4 (by assumption)) | exact w2 (s46 (by assumption)) | exact min4 (by assumption) | exact s46 (by assumption) | exact min11 (by assumption) (by assumption)) | (unfold vp_in; decide) | ((with_reducible (repeat (first | assumption | (refine sf_lays ?_ ?_ ?_; (with_reducible first | assumption | exact m20 (by assumption) (by assumption) | exact ga20 (by assumption) (by assumption)); (with_reducible first | exact v11_0 | exact v11_1 | exact v11_6 | exact v11_7 | exact v11_8 | exact v11_9 | exact v11_10 | exact w2 (by assumption) | exact w2 (min4 (by assumption)))) | (refine sf_adds ?_ ?_; (with_reducible first | exact v8_0 | exact v8_1 | exact v8_2 | exact v8_3 | exact v8_4 | exact v8_5 | exact v8_6 | exact v8_7)) | (refine sf_u (by omega) ?_)))); done))) (cwV 2 hts gX6_brings_X6_adds rfl rfl rfl (by decide +kernel) ⟨Nat.le_of_ble_eq_true rfl, Nat.le_of_ble_eq_true rfl⟩) hP hD hK hX hS hA 0 5 md_0 rfl rfl hl.1 rfl (Nat.le_of_ble_eq_true rfl) dX6_brings_81 ⟨Nat.zero_le _, Nat.zero_le _⟩ (fun H locs hP hD hS => ?_)
  refine lv_aload_n hx hb dX6_brings_84 rfl (lv_at hl 3 rfl) ?_
  refine lv_iconst (v := 1) hx hb dX6_brings_85 (by decide) ?_
  refine lv_iload hx hb dX6_brings_86 (lv_at hl 0 rfl) ?_
  refine rwVv CF (c_X6_adds l D cI cC cW t _ _ _ _ _ _ (by first | (with_reducible first | assumption | exact m20 (by assumption) (by assumption) | exact ga20 (by assumption) (by assumption) | exact w2 (by assumption) | exact w2 (min4 (by assumption)) | exact w2 (s46 (by assumption)) | exact min4 (by assumption) | exact s46 (by assumption) | exact min11 (by assumption) (by assumption)) | (unfold vp_in; decide) | ((with_reducible (repeat (first | assumption | (refine sf_lays ?_ ?_ ?_; (with_reducible first | assumption | exact m20 (by assumption) (by assumption) | exact ga20 (by assumption) (by assumption)); (with_reducible first | exact v11_0 | exact v11_1 | exact v11_6 | exact v11_7 | exact v11_8 | exact v11_9 | exact v11_10 | exact w2 (by assumption) | exact w2 (min4 (by assumption)))) | (refine sf_adds ?_ ?_; (with_reducible first | exact v8_0 | exact v8_1 | exact v8_2 | exact v8_3 | exact v8_4 | exact v8_5 | exact v8_6 | exact v8_7)) | (refine sf_u (by omega) ?_)))); done))) (cwV 2 hts gX6_brings_X6_adds rfl rfl rfl (by decide +kernel) ⟨Nat.le_of_ble_eq_true rfl, Nat.le_of_ble_eq_true rfl⟩) hP hD hK hX hS hA 0 5 md_0 rfl rfl hl.1 rfl (Nat.le_of_ble_eq_true rfl) dX6_brings_88 ⟨Nat.zero_le _, Nat.zero_le _⟩ (fun H locs hP hD hS => ?_)
  refine lv_iload hx hb dX6_brings_91 (lv_at hl 0 rfl) ?_
  exact rw_ret _ hx hb hr hP hD hS (rfl) dX6_brings_93 hlocks

def sp_X6_canPick (N : Nat → Int32) (Z : Nat → Nat → Int32) (x1 x2 : Int32) : Int32 :=
  if (N 4) = (1 : Int32) then (if (sp_X6_of N Z x1 (6 : Int32)) = (-1 : Int32) then ((0 : Int32)) else (if ((sp_X6_of N Z x1 (7 : Int32)) + (sp_X6_room N Z x1)) < x2 then ((0 : Int32)) else ((1 : Int32)))) else (if (sp_X6_of N Z x1 (6 : Int32)) = (-1 : Int32) then ((0 : Int32)) else (if ((sp_X6_of N Z x1 (7 : Int32)) + (0 : Int32)) < x2 then ((0 : Int32)) else ((1 : Int32))))
set_option maxHeartbeats 4000000 in
set_option maxRecDepth 100000 in
theorem c_X6_canPick (l : Launch) (D : va_G) (cI cC cW : ClassId) (t : Nat → Nat) (a : Nat → Nat) (N : Nat → Int32) (Z : Nat → Nat → Int32) (x1 x2 : Int32) (h1 : vp_in x1 20) : Met l yX6_canPick wsX6_canPick ({ frames := 2, cells := 0, slots := 0, locals := 44 }) (va_Pc [.ref (a 0), .int x1, .int x2] (roP D (tyL cI cC cW) (md cI a N Z) t)) (vp_Si (fun r => r = sp_X6_canPick N Z x1 x2)) 0 0 (fun _ => False) := by
  refine Met.ofW (cc := cX6_canPick) (maxL := 4) (ret := (some .boolean)) (by decide) rfl ?_
  intro p e s m args below meth c s₁ B hml hv
  obtain ⟨rfl, hP, hK, hX⟩ := hv
  have hx := B.exec
  have hb := B.bytes
  have hr := B.returns
  have hts := atoms_spec (ws := wsX6_canPick) B.pre
  have hown : s.vm.findClass RX6 = some m.cls := findClass_of_methodNamed B.named
  have hlocks := B.notSynchronized
  have hS : va_S (fun _ => False) s.heap s.heap [] := va_S.rf
  have wd1 : (Cond.fieldLink RX6 7 "PickSlotsModel" "now" "[I").before [.ref (a 0), .int x1, .int x2].toArray s = true := hts _ (List.mem_of_getElem? (i := 1) rfl)
  have hi6 : ∀ w ∈ wsX60, w ∈ wsX6_canPick := fun w h => List.mem_cons_of_mem _ (List.mem_append_right _ (h))
  have CF : CallFix p m c cX6_canPick 4 s [.ref (a 0), .int x1, .int x2].toArray wsX6_canPick RX6 := ⟨hx, hb, hml, hown, hts⟩
  have hl := lv_entry ([.ref (a 0), .int x1, .int x2]) (n := 4) (Nat.le_of_ble_eq_true rfl)
  rw [lg_entry_eq]
  generalize (lg_sl ([.ref (a 0), .int x1, .int x2]) ++ List.replicate (4 - (lg_sl ([.ref (a 0), .int x1, .int x2])).length) Slot.unset).toArray = ls at hl ⊢
  have hl : lv_has ls 4 [(0, .ref (a 0)), (1, .int x1), (2, .int x2)] := hl
  refine lv_aload_n hx hb dX6_canPick_0 rfl (lv_at hl 0 rfl) ?_
  refine lv_iload_n hx hb dX6_canPick_1 rfl (lv_at hl 1 rfl) ?_
  refine lv_bipush (v := 7) hx hb dX6_canPick_2 (by decide) ?_
  refine roV CF (c_X6_of l D cI cC cW t _ _ _ _ _ (by first | (with_reducible first | assumption | exact m20 (by assumption) (by assumption) | exact ga20 (by assumption) (by assumption) | exact w2 (by assumption) | exact w2 (min4 (by assumption)) | exact w2 (s46 (by assumption)) | exact min4 (by assumption) | exact s46 (by assumption) | exact min11 (by assumption) (by assumption)) | (unfold vp_in; decide) | ((with_reducible (repeat (first | assumption | (refine sf_lays ?_ ?_ ?_; (with_reducible first | assumption | exact m20 (by assumption) (by assumption) | exact ga20 (by assumption) (by assumption)); (with_reducible first | exact v11_0 | exact v11_1 | exact v11_6 | exact v11_7 | exact v11_8 | exact v11_9 | exact v11_10 | exact w2 (by assumption) | exact w2 (min4 (by assumption)))) | (refine sf_adds ?_ ?_; (with_reducible first | exact v8_0 | exact v8_1 | exact v8_2 | exact v8_3 | exact v8_4 | exact v8_5 | exact v8_6 | exact v8_7)) | (refine sf_u (by omega) ?_)))); done)) (by first | (with_reducible first | assumption | exact m20 (by assumption) (by assumption) | exact ga20 (by assumption) (by assumption) | exact w2 (by assumption) | exact w2 (min4 (by assumption)) | exact w2 (s46 (by assumption)) | exact min4 (by assumption) | exact s46 (by assumption) | exact min11 (by assumption) (by assumption)) | (unfold vp_in; decide) | ((with_reducible (repeat (first | assumption | (refine sf_lays ?_ ?_ ?_; (with_reducible first | assumption | exact m20 (by assumption) (by assumption) | exact ga20 (by assumption) (by assumption)); (with_reducible first | exact v11_0 | exact v11_1 | exact v11_6 | exact v11_7 | exact v11_8 | exact v11_9 | exact v11_10 | exact w2 (by assumption) | exact w2 (min4 (by assumption)))) | (refine sf_adds ?_ ?_; (with_reducible first | exact v8_0 | exact v8_1 | exact v8_2 | exact v8_3 | exact v8_4 | exact v8_5 | exact v8_6 | exact v8_7)) | (refine sf_u (by omega) ?_)))); done))) (cwV 2 hts gX6_canPick_X6_of rfl rfl rfl (by decide +kernel) ⟨Nat.le_of_ble_eq_true rfl, Nat.le_of_ble_eq_true rfl⟩) hP hK hX hS 0 5 md_0 rfl rfl hl.1 rfl (Nat.le_of_ble_eq_true rfl) dX6_canPick_4 ⟨Nat.zero_le _, Nat.zero_le _⟩ ?_
  refine lv_aload_n hx hb dX6_canPick_7 rfl (lv_at hl 0 rfl) ?_
  refine va_get (D := D) (ci := 5) (C := RX6) (T := TX6) (N := 17) hx hb hts hi6 hown hK hP 0 md_0 rfl 0 (by decide) wd1 (fun _ h9 => h9) rfl dX6_canPick_8 ?_
  refine lv_iconst (v := 4) hx hb dX6_canPick_11 (by decide) ?_
  refine my_ialdK (k := 4) hx hb hK hP 1 0 md_1 rfl (by decide) (by first | (with_reducible first | assumption | exact m20 (by assumption) (by assumption) | exact ga20 (by assumption) (by assumption) | exact w2 (by assumption) | exact w2 (min4 (by assumption)) | exact w2 (s46 (by assumption)) | exact min4 (by assumption) | exact s46 (by assumption) | exact min11 (by assumption) (by assumption)) | (unfold vp_in; decide) | ((with_reducible (repeat (first | assumption | (refine sf_lays ?_ ?_ ?_; (with_reducible first | assumption | exact m20 (by assumption) (by assumption) | exact ga20 (by assumption) (by assumption)); (with_reducible first | exact v11_0 | exact v11_1 | exact v11_6 | exact v11_7 | exact v11_8 | exact v11_9 | exact v11_10 | exact w2 (by assumption) | exact w2 (min4 (by assumption)))) | (refine sf_adds ?_ ?_; (with_reducible first | exact v8_0 | exact v8_1 | exact v8_2 | exact v8_3 | exact v8_4 | exact v8_5 | exact v8_6 | exact v8_7)) | (refine sf_u (by omega) ?_)))); done)) dX6_canPick_12 ?_
  refine lv_iconst (v := 1) hx hb dX6_canPick_13 (by decide) ?_
  refine lv_icmp_ne (tgt := 25) hx hb dX6_canPick_14 (by decide) (fun c14 => ?_) (fun c14 => ?_)
  · refine lv_iconst (v := 0) hx hb dX6_canPick_25 (by decide) ?_
    refine lv_iadd hx hb dX6_canPick_26 ?_
    refine lv_istore_n (lv' := [(3, .int _), (0, .ref _), (1, .int _), (2, .int _)]) hx hb dX6_canPick_27 rfl hl (by decide) rfl (fun ls hl => ?_)
    refine lv_aload_n hx hb dX6_canPick_28 rfl (lv_at hl 1 rfl) ?_
    refine lv_iload_n hx hb dX6_canPick_29 rfl (lv_at hl 2 rfl) ?_
    refine lv_bipush (v := 6) hx hb dX6_canPick_30 (by decide) ?_
    refine roV CF (c_X6_of l D cI cC cW t _ _ _ _ _ (by first | (with_reducible first | assumption | exact m20 (by assumption) (by assumption) | exact ga20 (by assumption) (by assumption) | exact w2 (by assumption) | exact w2 (min4 (by assumption)) | exact w2 (s46 (by assumption)) | exact min4 (by assumption) | exact s46 (by assumption) | exact min11 (by assumption) (by assumption)) | (unfold vp_in; decide) | ((with_reducible (repeat (first | assumption | (refine sf_lays ?_ ?_ ?_; (with_reducible first | assumption | exact m20 (by assumption) (by assumption) | exact ga20 (by assumption) (by assumption)); (with_reducible first | exact v11_0 | exact v11_1 | exact v11_6 | exact v11_7 | exact v11_8 | exact v11_9 | exact v11_10 | exact w2 (by assumption) | exact w2 (min4 (by assumption)))) | (refine sf_adds ?_ ?_; (with_reducible first | exact v8_0 | exact v8_1 | exact v8_2 | exact v8_3 | exact v8_4 | exact v8_5 | exact v8_6 | exact v8_7)) | (refine sf_u (by omega) ?_)))); done)) (by first | (with_reducible first | assumption | exact m20 (by assumption) (by assumption) | exact ga20 (by assumption) (by assumption) | exact w2 (by assumption) | exact w2 (min4 (by assumption)) | exact w2 (s46 (by assumption)) | exact min4 (by assumption) | exact s46 (by assumption) | exact min11 (by assumption) (by assumption)) | (unfold vp_in; decide) | ((with_reducible (repeat (first | assumption | (refine sf_lays ?_ ?_ ?_; (with_reducible first | assumption | exact m20 (by assumption) (by assumption) | exact ga20 (by assumption) (by assumption)); (with_reducible first | exact v11_0 | exact v11_1 | exact v11_6 | exact v11_7 | exact v11_8 | exact v11_9 | exact v11_10 | exact w2 (by assumption) | exact w2 (min4 (by assumption)))) | (refine sf_adds ?_ ?_; (with_reducible first | exact v8_0 | exact v8_1 | exact v8_2 | exact v8_3 | exact v8_4 | exact v8_5 | exact v8_6 | exact v8_7)) | (refine sf_u (by omega) ?_)))); done))) (cwV 2 hts gX6_canPick_X6_of rfl rfl rfl (by decide +kernel) ⟨Nat.le_of_ble_eq_true rfl, Nat.le_of_ble_eq_true rfl⟩) hP hK hX hS 0 5 md_0 rfl rfl hl.1 rfl (Nat.le_of_ble_eq_true rfl) dX6_canPick_32 ⟨Nat.zero_le _, Nat.zero_le _⟩ ?_
    refine lv_iconst (v := -1) hx hb dX6_canPick_35 (by decide) ?_
    refine lv_icmp_eq (tgt := 48) hx hb dX6_canPick_36 (by decide) (fun c36 => ?_) (fun c36 => ?_)
    · refine lv_iconst (v := 0) hx hb dX6_canPick_48 (by decide) ?_
      exact ro_zret hx hb hr (rfl) (Eq.trans (if_neg c14) (Eq.trans (if_pos c36) (rfl))) dX6_canPick_49 hlocks
    · refine lv_iload_n hx hb dX6_canPick_39 rfl (lv_at hl 0 rfl) ?_
      refine lv_iload_n hx hb dX6_canPick_40 rfl (lv_at hl 3 rfl) ?_
      refine lv_icmp_lt (tgt := 48) hx hb dX6_canPick_41 (by decide) (fun c41 => ?_) (fun c41 => ?_)
      · refine lv_iconst (v := 0) hx hb dX6_canPick_48 (by decide) ?_
        exact ro_zret hx hb hr (rfl) (Eq.trans (if_neg c14) (Eq.trans (if_neg c36) (Eq.trans (if_pos c41) (rfl)))) dX6_canPick_49 hlocks
      · refine lv_iconst (v := 1) hx hb dX6_canPick_44 (by decide) ?_
        refine lv_goto (tgt := 49) hx hb dX6_canPick_45 (by decide) ?_
        exact ro_zret hx hb hr (rfl) (Eq.trans (if_neg c14) (Eq.trans (if_neg c36) (Eq.trans (if_neg c41) (rfl)))) dX6_canPick_49 hlocks
  · refine lv_aload_n hx hb dX6_canPick_17 rfl (lv_at hl 0 rfl) ?_
    refine lv_iload_n hx hb dX6_canPick_18 rfl (lv_at hl 1 rfl) ?_
    refine roV CF (c_X6_room l D cI cC cW t _ _ _ _ (by first | (with_reducible first | assumption | exact m20 (by assumption) (by assumption) | exact ga20 (by assumption) (by assumption) | exact w2 (by assumption) | exact w2 (min4 (by assumption)) | exact w2 (s46 (by assumption)) | exact min4 (by assumption) | exact s46 (by assumption) | exact min11 (by assumption) (by assumption)) | (unfold vp_in; decide) | ((with_reducible (repeat (first | assumption | (refine sf_lays ?_ ?_ ?_; (with_reducible first | assumption | exact m20 (by assumption) (by assumption) | exact ga20 (by assumption) (by assumption)); (with_reducible first | exact v11_0 | exact v11_1 | exact v11_6 | exact v11_7 | exact v11_8 | exact v11_9 | exact v11_10 | exact w2 (by assumption) | exact w2 (min4 (by assumption)))) | (refine sf_adds ?_ ?_; (with_reducible first | exact v8_0 | exact v8_1 | exact v8_2 | exact v8_3 | exact v8_4 | exact v8_5 | exact v8_6 | exact v8_7)) | (refine sf_u (by omega) ?_)))); done))) (cwV 1 hts gX6_canPick_X6_room rfl rfl rfl (by decide +kernel) ⟨Nat.le_of_ble_eq_true rfl, Nat.le_of_ble_eq_true rfl⟩) hP hK hX hS 0 5 md_0 rfl rfl hl.1 rfl (Nat.le_of_ble_eq_true rfl) dX6_canPick_19 ⟨Nat.zero_le _, Nat.zero_le _⟩ ?_
    refine lv_goto (tgt := 26) hx hb dX6_canPick_22 (by decide) ?_
    refine lv_iadd hx hb dX6_canPick_26 ?_
    refine lv_istore_n (lv' := [(3, .int _), (0, .ref _), (1, .int _), (2, .int _)]) hx hb dX6_canPick_27 rfl hl (by decide) rfl (fun ls hl => ?_)
    refine lv_aload_n hx hb dX6_canPick_28 rfl (lv_at hl 1 rfl) ?_
    refine lv_iload_n hx hb dX6_canPick_29 rfl (lv_at hl 2 rfl) ?_
    refine lv_bipush (v := 6) hx hb dX6_canPick_30 (by decide) ?_
    refine roV CF (c_X6_of l D cI cC cW t _ _ _ _ _ (by first | (with_reducible first | assumption | exact m20 (by assumption) (by assumption) | exact ga20 (by assumption) (by assumption) | exact w2 (by assumption) | exact w2 (min4 (by assumption)) | exact w2 (s46 (by assumption)) | exact min4 (by assumption) | exact s46 (by assumption) | exact min11 (by assumption) (by assumption)) | (unfold vp_in; decide) | ((with_reducible (repeat (first | assumption | (refine sf_lays ?_ ?_ ?_; (with_reducible first | assumption | exact m20 (by assumption) (by assumption) | exact ga20 (by assumption) (by assumption)); (with_reducible first | exact v11_0 | exact v11_1 | exact v11_6 | exact v11_7 | exact v11_8 | exact v11_9 | exact v11_10 | exact w2 (by assumption) | exact w2 (min4 (by assumption)))) | (refine sf_adds ?_ ?_; (with_reducible first | exact v8_0 | exact v8_1 | exact v8_2 | exact v8_3 | exact v8_4 | exact v8_5 | exact v8_6 | exact v8_7)) | (refine sf_u (by omega) ?_)))); done)) (by first | (with_reducible first | assumption | exact m20 (by assumption) (by assumption) | exact ga20 (by assumption) (by assumption) | exact w2 (by assumption) | exact w2 (min4 (by assumption)) | exact w2 (s46 (by assumption)) | exact min4 (by assumption) | exact s46 (by assumption) | exact min11 (by assumption) (by assumption)) | (unfold vp_in; decide) | ((with_reducible (repeat (first | assumption | (refine sf_lays ?_ ?_ ?_; (with_reducible first | assumption | exact m20 (by assumption) (by assumption) | exact ga20 (by assumption) (by assumption)); (with_reducible first | exact v11_0 | exact v11_1 | exact v11_6 | exact v11_7 | exact v11_8 | exact v11_9 | exact v11_10 | exact w2 (by assumption) | exact w2 (min4 (by assumption)))) | (refine sf_adds ?_ ?_; (with_reducible first | exact v8_0 | exact v8_1 | exact v8_2 | exact v8_3 | exact v8_4 | exact v8_5 | exact v8_6 | exact v8_7)) | (refine sf_u (by omega) ?_)))); done))) (cwV 2 hts gX6_canPick_X6_of rfl rfl rfl (by decide +kernel) ⟨Nat.le_of_ble_eq_true rfl, Nat.le_of_ble_eq_true rfl⟩) hP hK hX hS 0 5 md_0 rfl rfl hl.1 rfl (Nat.le_of_ble_eq_true rfl) dX6_canPick_32 ⟨Nat.zero_le _, Nat.zero_le _⟩ ?_
    refine lv_iconst (v := -1) hx hb dX6_canPick_35 (by decide) ?_
    refine lv_icmp_eq (tgt := 48) hx hb dX6_canPick_36 (by decide) (fun c36 => ?_) (fun c36 => ?_)
    · refine lv_iconst (v := 0) hx hb dX6_canPick_48 (by decide) ?_
      exact ro_zret hx hb hr (rfl) (Eq.trans (if_pos c14) (Eq.trans (if_pos c36) (rfl))) dX6_canPick_49 hlocks
    · refine lv_iload_n hx hb dX6_canPick_39 rfl (lv_at hl 0 rfl) ?_
      refine lv_iload_n hx hb dX6_canPick_40 rfl (lv_at hl 3 rfl) ?_
      refine lv_icmp_lt (tgt := 48) hx hb dX6_canPick_41 (by decide) (fun c41 => ?_) (fun c41 => ?_)
      · refine lv_iconst (v := 0) hx hb dX6_canPick_48 (by decide) ?_
        exact ro_zret hx hb hr (rfl) (Eq.trans (if_pos c14) (Eq.trans (if_neg c36) (Eq.trans (if_pos c41) (rfl)))) dX6_canPick_49 hlocks
      · refine lv_iconst (v := 1) hx hb dX6_canPick_44 (by decide) ?_
        refine lv_goto (tgt := 49) hx hb dX6_canPick_45 (by decide) ?_
        exact ro_zret hx hb hr (rfl) (Eq.trans (if_pos c14) (Eq.trans (if_neg c36) (Eq.trans (if_neg c41) (rfl)))) dX6_canPick_49 hlocks
theorem zb_X6_canPick {N : Nat → Int32} {Z : Nat → Nat → Int32} {x1 x2 : Int32} : narrow .boolean (.int (sp_X6_canPick N Z x1 x2)) = .int (sp_X6_canPick N Z x1 x2) := by
  unfold sp_X6_canPick
  (repeat' split) <;> first | rfl

def sp_X6_picks (N : Nat → Int32) (Z : Nat → Nat → Int32) (x1 x2 : Int32) : Int32 × (Nat → Int32) :=
  if x2 ≤ (sp_X6_of N Z x1 (7 : Int32)) then (let k51_1 : Nat → Int32 := sp_X6_lays N Z x1 (7 : Int32) ((sp_X6_of N Z x1 (7 : Int32)) - x2); let k67_2 : Nat → Int32 := sp_X6_lays k51_1 Z x1 (9 : Int32) ((sp_X6_of k51_1 Z x1 (9 : Int32)) + (1 : Int32)); let k83_3 : Nat → Int32 := sp_X6_lays k67_2 Z x1 (10 : Int32) ((sp_X6_of k67_2 Z x1 (10 : Int32)) + x2); let k90_4 : Nat → Int32 := sp_X6_adds k83_3 Z (0 : Int32) (sp_X6_walk (sp_X6_of N Z x1 (6 : Int32))); let k97_5 : Nat → Int32 := sp_X6_adds k90_4 Z (7 : Int32) (1 : Int32); (((0 : Int32) + (sp_X6_walk (sp_X6_of N Z x1 (6 : Int32)))), k97_5)) else (let k18_1 : Int32 × (Nat → Int32) := sp_X6_brings N Z x1 (sp_X6_room N Z x1); let N2 : Nat → Int32 := k18_1.2; let k51_3 : Nat → Int32 := sp_X6_lays N2 Z x1 (7 : Int32) ((sp_X6_of N2 Z x1 (7 : Int32)) - x2); let k67_4 : Nat → Int32 := sp_X6_lays k51_3 Z x1 (9 : Int32) ((sp_X6_of k51_3 Z x1 (9 : Int32)) + (1 : Int32)); let k83_5 : Nat → Int32 := sp_X6_lays k67_4 Z x1 (10 : Int32) ((sp_X6_of k67_4 Z x1 (10 : Int32)) + x2); let k90_6 : Nat → Int32 := sp_X6_adds k83_5 Z (0 : Int32) (sp_X6_walk (sp_X6_of N2 Z x1 (6 : Int32))); let k97_7 : Nat → Int32 := sp_X6_adds k90_6 Z (7 : Int32) (1 : Int32); ((k18_1.1 + (sp_X6_walk (sp_X6_of N2 Z x1 (6 : Int32)))), k97_7))
set_option maxHeartbeats 4000000 in
set_option maxRecDepth 100000 in
theorem c_X6_picks (l : Launch) (D : va_G) (cI cC cW : ClassId) (t : Nat → Nat) (a : Nat → Nat) (sz : Nat) (N : Nat → Int32) (Z : Nat → Nat → Int32) (x1 x2 : Int32) (h1 : vp_in x1 20) (hld : ¬ N 3 = 0) : Met l yX6_picks wsX6_picks ({ frames := 3, cells := 0, slots := 0, locals := 66 }) (va_Pc [.ref (a 0), .int x1, .int x2] (rwP D (tyL cI cC cW) (md cI a N Z) t sz)) (va_Qi (fun (r : Int32) (u : Nat → Int32) => (r, u) = sp_X6_picks N Z x1 x2) (fun u => rwB D (va_A (md cI a N Z) sz) (md cI a u Z)) (va_A (md cI a N Z) sz)) 0 0 (va_A (md cI a N Z) sz) := by
  refine Met.ofW (cc := cX6_picks) (maxL := 5) (ret := (some .int)) (by decide) rfl ?_
  intro p e s m args below meth c s₁ B hml hv
  obtain ⟨rfl, hsz, hP, hK, hD0, hX⟩ := hv
  have hx := B.exec
  have hb := B.bytes
  have hr := B.returns
  have hts := atoms_spec (ws := wsX6_picks) B.pre
  have hown : s.vm.findClass RX6 = some m.cls := findClass_of_methodNamed B.named
  have hlocks := B.notSynchronized
  subst hsz
  have hD := hD0.self (sz := s.heap.size)
  generalize hAe : va_A (md cI a N Z) s.heap.size = A at hD hX ⊢
  have hA : ∀ q : Nat, s.heap.size ≤ q → A q := fun q h => by rw [← hAe]; exact Or.inr h
  have hS : va_S A s.heap s.heap [] := va_S.rf
  have CF : CallFix p m c cX6_picks 5 s [.ref (a 0), .int x1, .int x2].toArray wsX6_picks RX6 := ⟨hx, hb, hml, hown, hts⟩
  have hl := lv_entry ([.ref (a 0), .int x1, .int x2]) (n := 5) (Nat.le_of_ble_eq_true rfl)
  rw [lg_entry_eq]
  generalize (lg_sl ([.ref (a 0), .int x1, .int x2]) ++ List.replicate (5 - (lg_sl ([.ref (a 0), .int x1, .int x2])).length) Slot.unset).toArray = ls at hl ⊢
  have hl : lv_has ls 5 [(0, .ref (a 0)), (1, .int x1), (2, .int x2)] := hl
  refine lv_aload_n hx hb dX6_picks_0 rfl (lv_at hl 0 rfl) ?_
  refine lv_iload_n hx hb dX6_picks_1 rfl (lv_at hl 1 rfl) ?_
  refine lv_bipush (v := 7) hx hb dX6_picks_2 (by decide) ?_
  refine roV CF (c_X6_of l D cI cC cW t _ _ _ _ _ (by first | (with_reducible first | assumption | exact m20 (by assumption) (by assumption) | exact ga20 (by assumption) (by assumption) | exact w2 (by assumption) | exact w2 (min4 (by assumption)) | exact w2 (s46 (by assumption)) | exact min4 (by assumption) | exact s46 (by assumption) | exact min11 (by assumption) (by assumption)) | (unfold vp_in; decide) | ((with_reducible (repeat (first | assumption | (refine sf_lays ?_ ?_ ?_; (with_reducible first | assumption | exact m20 (by assumption) (by assumption) | exact ga20 (by assumption) (by assumption)); (with_reducible first | exact v11_0 | exact v11_1 | exact v11_6 | exact v11_7 | exact v11_8 | exact v11_9 | exact v11_10 | exact w2 (by assumption) | exact w2 (min4 (by assumption)))) | (refine sf_adds ?_ ?_; (with_reducible first | exact v8_0 | exact v8_1 | exact v8_2 | exact v8_3 | exact v8_4 | exact v8_5 | exact v8_6 | exact v8_7)) | (refine sf_u (by omega) ?_)))); done)) (by first | (with_reducible first | assumption | exact m20 (by assumption) (by assumption) | exact ga20 (by assumption) (by assumption) | exact w2 (by assumption) | exact w2 (min4 (by assumption)) | exact w2 (s46 (by assumption)) | exact min4 (by assumption) | exact s46 (by assumption) | exact min11 (by assumption) (by assumption)) | (unfold vp_in; decide) | ((with_reducible (repeat (first | assumption | (refine sf_lays ?_ ?_ ?_; (with_reducible first | assumption | exact m20 (by assumption) (by assumption) | exact ga20 (by assumption) (by assumption)); (with_reducible first | exact v11_0 | exact v11_1 | exact v11_6 | exact v11_7 | exact v11_8 | exact v11_9 | exact v11_10 | exact w2 (by assumption) | exact w2 (min4 (by assumption)))) | (refine sf_adds ?_ ?_; (with_reducible first | exact v8_0 | exact v8_1 | exact v8_2 | exact v8_3 | exact v8_4 | exact v8_5 | exact v8_6 | exact v8_7)) | (refine sf_u (by omega) ?_)))); done))) (cwV 2 hts gX6_picks_X6_of rfl rfl rfl (by decide +kernel) ⟨Nat.le_of_ble_eq_true rfl, Nat.le_of_ble_eq_true rfl⟩) hP hK hX hS 0 5 md_0 rfl rfl hl.1 rfl (Nat.le_of_ble_eq_true rfl) dX6_picks_4 ⟨Nat.zero_le _, Nat.zero_le _⟩ ?_
  refine lv_iload_n hx hb dX6_picks_7 rfl (lv_at hl 2 rfl) ?_
  refine lv_icmp_ge (tgt := 24) hx hb dX6_picks_8 (by decide) (fun c8 => ?_) (fun c8 => ?_)
  · refine lv_iconst (v := 0) hx hb dX6_picks_24 (by decide) ?_
    refine lv_istore_n (lv' := [(3, .int _), (0, .ref _), (1, .int _), (2, .int _)]) hx hb dX6_picks_25 rfl hl (by decide) rfl (fun ls hl => ?_)
    refine lv_aload_n hx hb dX6_picks_26 rfl (lv_at hl 1 rfl) ?_
    refine lv_iload_n hx hb dX6_picks_27 rfl (lv_at hl 2 rfl) ?_
    refine lv_bipush (v := 6) hx hb dX6_picks_28 (by decide) ?_
    refine roV CF (c_X6_of l D cI cC cW t _ _ _ _ _ (by first | (with_reducible first | assumption | exact m20 (by assumption) (by assumption) | exact ga20 (by assumption) (by assumption) | exact w2 (by assumption) | exact w2 (min4 (by assumption)) | exact w2 (s46 (by assumption)) | exact min4 (by assumption) | exact s46 (by assumption) | exact min11 (by assumption) (by assumption)) | (unfold vp_in; decide) | ((with_reducible (repeat (first | assumption | (refine sf_lays ?_ ?_ ?_; (with_reducible first | assumption | exact m20 (by assumption) (by assumption) | exact ga20 (by assumption) (by assumption)); (with_reducible first | exact v11_0 | exact v11_1 | exact v11_6 | exact v11_7 | exact v11_8 | exact v11_9 | exact v11_10 | exact w2 (by assumption) | exact w2 (min4 (by assumption)))) | (refine sf_adds ?_ ?_; (with_reducible first | exact v8_0 | exact v8_1 | exact v8_2 | exact v8_3 | exact v8_4 | exact v8_5 | exact v8_6 | exact v8_7)) | (refine sf_u (by omega) ?_)))); done)) (by first | (with_reducible first | assumption | exact m20 (by assumption) (by assumption) | exact ga20 (by assumption) (by assumption) | exact w2 (by assumption) | exact w2 (min4 (by assumption)) | exact w2 (s46 (by assumption)) | exact min4 (by assumption) | exact s46 (by assumption) | exact min11 (by assumption) (by assumption)) | (unfold vp_in; decide) | ((with_reducible (repeat (first | assumption | (refine sf_lays ?_ ?_ ?_; (with_reducible first | assumption | exact m20 (by assumption) (by assumption) | exact ga20 (by assumption) (by assumption)); (with_reducible first | exact v11_0 | exact v11_1 | exact v11_6 | exact v11_7 | exact v11_8 | exact v11_9 | exact v11_10 | exact w2 (by assumption) | exact w2 (min4 (by assumption)))) | (refine sf_adds ?_ ?_; (with_reducible first | exact v8_0 | exact v8_1 | exact v8_2 | exact v8_3 | exact v8_4 | exact v8_5 | exact v8_6 | exact v8_7)) | (refine sf_u (by omega) ?_)))); done))) (cwV 2 hts gX6_picks_X6_of rfl rfl rfl (by decide +kernel) ⟨Nat.le_of_ble_eq_true rfl, Nat.le_of_ble_eq_true rfl⟩) hP hK hX hS 0 5 md_0 rfl rfl hl.1 rfl (Nat.le_of_ble_eq_true rfl) dX6_picks_30 ⟨Nat.zero_le _, Nat.zero_le _⟩ ?_
    refine roS CF (c_X6_walk l D cI cC cW t _ ) (va_cwS 1 hts gX6_picks_X6_walk rfl rfl rfl (by decide +kernel) ⟨Nat.le_of_ble_eq_true rfl, Nat.le_of_ble_eq_true rfl⟩) vP_nil hK hX hS rfl hl.1 rfl (Nat.le_of_ble_eq_true rfl) dX6_picks_33 ⟨Nat.zero_le _, Nat.zero_le _⟩ ?_
    refine lv_istore (lv' := [(4, .int _), (3, .int _), (0, .ref _), (1, .int _), (2, .int _)]) hx hb dX6_picks_36 hl (by decide) rfl (fun ls hl => ?_)
    refine lv_aload_n hx hb dX6_picks_38 rfl (lv_at hl 2 rfl) ?_
    refine lv_iload_n hx hb dX6_picks_39 rfl (lv_at hl 3 rfl) ?_
    refine lv_bipush (v := 7) hx hb dX6_picks_40 (by decide) ?_
    refine lv_aload_n hx hb dX6_picks_42 rfl (lv_at hl 2 rfl) ?_
    refine lv_iload_n hx hb dX6_picks_43 rfl (lv_at hl 3 rfl) ?_
    refine lv_bipush (v := 7) hx hb dX6_picks_44 (by decide) ?_
    refine roV CF (c_X6_of l D cI cC cW t _ _ _ _ _ (by first | (with_reducible first | assumption | exact m20 (by assumption) (by assumption) | exact ga20 (by assumption) (by assumption) | exact w2 (by assumption) | exact w2 (min4 (by assumption)) | exact w2 (s46 (by assumption)) | exact min4 (by assumption) | exact s46 (by assumption) | exact min11 (by assumption) (by assumption)) | (unfold vp_in; decide) | ((with_reducible (repeat (first | assumption | (refine sf_lays ?_ ?_ ?_; (with_reducible first | assumption | exact m20 (by assumption) (by assumption) | exact ga20 (by assumption) (by assumption)); (with_reducible first | exact v11_0 | exact v11_1 | exact v11_6 | exact v11_7 | exact v11_8 | exact v11_9 | exact v11_10 | exact w2 (by assumption) | exact w2 (min4 (by assumption)))) | (refine sf_adds ?_ ?_; (with_reducible first | exact v8_0 | exact v8_1 | exact v8_2 | exact v8_3 | exact v8_4 | exact v8_5 | exact v8_6 | exact v8_7)) | (refine sf_u (by omega) ?_)))); done)) (by first | (with_reducible first | assumption | exact m20 (by assumption) (by assumption) | exact ga20 (by assumption) (by assumption) | exact w2 (by assumption) | exact w2 (min4 (by assumption)) | exact w2 (s46 (by assumption)) | exact min4 (by assumption) | exact s46 (by assumption) | exact min11 (by assumption) (by assumption)) | (unfold vp_in; decide) | ((with_reducible (repeat (first | assumption | (refine sf_lays ?_ ?_ ?_; (with_reducible first | assumption | exact m20 (by assumption) (by assumption) | exact ga20 (by assumption) (by assumption)); (with_reducible first | exact v11_0 | exact v11_1 | exact v11_6 | exact v11_7 | exact v11_8 | exact v11_9 | exact v11_10 | exact w2 (by assumption) | exact w2 (min4 (by assumption)))) | (refine sf_adds ?_ ?_; (with_reducible first | exact v8_0 | exact v8_1 | exact v8_2 | exact v8_3 | exact v8_4 | exact v8_5 | exact v8_6 | exact v8_7)) | (refine sf_u (by omega) ?_)))); done))) (cwV 2 hts gX6_picks_X6_of rfl rfl rfl (by decide +kernel) ⟨Nat.le_of_ble_eq_true rfl, Nat.le_of_ble_eq_true rfl⟩) hP hK hX hS 0 5 md_0 rfl rfl hl.1 rfl (Nat.le_of_ble_eq_true rfl) dX6_picks_46 ⟨Nat.zero_le _, Nat.zero_le _⟩ ?_
    refine lv_iload_n hx hb dX6_picks_49 rfl (lv_at hl 4 rfl) ?_
    refine lv_isub hx hb dX6_picks_50 ?_
    refine rwVv CF (c_X6_lays l D cI cC cW t _ _ _ _ _ _ _ (by first | (with_reducible first | assumption | exact m20 (by assumption) (by assumption) | exact ga20 (by assumption) (by assumption) | exact w2 (by assumption) | exact w2 (min4 (by assumption)) | exact w2 (s46 (by assumption)) | exact min4 (by assumption) | exact s46 (by assumption) | exact min11 (by assumption) (by assumption)) | (unfold vp_in; decide) | ((with_reducible (repeat (first | assumption | (refine sf_lays ?_ ?_ ?_; (with_reducible first | assumption | exact m20 (by assumption) (by assumption) | exact ga20 (by assumption) (by assumption)); (with_reducible first | exact v11_0 | exact v11_1 | exact v11_6 | exact v11_7 | exact v11_8 | exact v11_9 | exact v11_10 | exact w2 (by assumption) | exact w2 (min4 (by assumption)))) | (refine sf_adds ?_ ?_; (with_reducible first | exact v8_0 | exact v8_1 | exact v8_2 | exact v8_3 | exact v8_4 | exact v8_5 | exact v8_6 | exact v8_7)) | (refine sf_u (by omega) ?_)))); done)) (by first | (with_reducible first | assumption | exact m20 (by assumption) (by assumption) | exact ga20 (by assumption) (by assumption) | exact w2 (by assumption) | exact w2 (min4 (by assumption)) | exact w2 (s46 (by assumption)) | exact min4 (by assumption) | exact s46 (by assumption) | exact min11 (by assumption) (by assumption)) | (unfold vp_in; decide) | ((with_reducible (repeat (first | assumption | (refine sf_lays ?_ ?_ ?_; (with_reducible first | assumption | exact m20 (by assumption) (by assumption) | exact ga20 (by assumption) (by assumption)); (with_reducible first | exact v11_0 | exact v11_1 | exact v11_6 | exact v11_7 | exact v11_8 | exact v11_9 | exact v11_10 | exact w2 (by assumption) | exact w2 (min4 (by assumption)))) | (refine sf_adds ?_ ?_; (with_reducible first | exact v8_0 | exact v8_1 | exact v8_2 | exact v8_3 | exact v8_4 | exact v8_5 | exact v8_6 | exact v8_7)) | (refine sf_u (by omega) ?_)))); done))) (cwV 3 hts gX6_picks_X6_lays rfl rfl rfl (by decide +kernel) ⟨Nat.le_of_ble_eq_true rfl, Nat.le_of_ble_eq_true rfl⟩) hP hD hK hX hS hA 0 5 md_0 rfl rfl hl.1 rfl (Nat.le_of_ble_eq_true rfl) dX6_picks_51 ⟨Nat.zero_le _, Nat.zero_le _⟩ (fun H locs hP hD hS => ?_)
    refine lv_aload_n hx hb dX6_picks_54 rfl (lv_at hl 2 rfl) ?_
    refine lv_iload_n hx hb dX6_picks_55 rfl (lv_at hl 3 rfl) ?_
    refine lv_bipush (v := 9) hx hb dX6_picks_56 (by decide) ?_
    refine lv_aload_n hx hb dX6_picks_58 rfl (lv_at hl 2 rfl) ?_
    refine lv_iload_n hx hb dX6_picks_59 rfl (lv_at hl 3 rfl) ?_
    refine lv_bipush (v := 9) hx hb dX6_picks_60 (by decide) ?_
    refine roV CF (c_X6_of l D cI cC cW t _ _ _ _ _ (by first | (with_reducible first | assumption | exact m20 (by assumption) (by assumption) | exact ga20 (by assumption) (by assumption) | exact w2 (by assumption) | exact w2 (min4 (by assumption)) | exact w2 (s46 (by assumption)) | exact min4 (by assumption) | exact s46 (by assumption) | exact min11 (by assumption) (by assumption)) | (unfold vp_in; decide) | ((with_reducible (repeat (first | assumption | (refine sf_lays ?_ ?_ ?_; (with_reducible first | assumption | exact m20 (by assumption) (by assumption) | exact ga20 (by assumption) (by assumption)); (with_reducible first | exact v11_0 | exact v11_1 | exact v11_6 | exact v11_7 | exact v11_8 | exact v11_9 | exact v11_10 | exact w2 (by assumption) | exact w2 (min4 (by assumption)))) | (refine sf_adds ?_ ?_; (with_reducible first | exact v8_0 | exact v8_1 | exact v8_2 | exact v8_3 | exact v8_4 | exact v8_5 | exact v8_6 | exact v8_7)) | (refine sf_u (by omega) ?_)))); done)) (by first | (with_reducible first | assumption | exact m20 (by assumption) (by assumption) | exact ga20 (by assumption) (by assumption) | exact w2 (by assumption) | exact w2 (min4 (by assumption)) | exact w2 (s46 (by assumption)) | exact min4 (by assumption) | exact s46 (by assumption) | exact min11 (by assumption) (by assumption)) | (unfold vp_in; decide) | ((with_reducible (repeat (first | assumption | (refine sf_lays ?_ ?_ ?_; (with_reducible first | assumption | exact m20 (by assumption) (by assumption) | exact ga20 (by assumption) (by assumption)); (with_reducible first | exact v11_0 | exact v11_1 | exact v11_6 | exact v11_7 | exact v11_8 | exact v11_9 | exact v11_10 | exact w2 (by assumption) | exact w2 (min4 (by assumption)))) | (refine sf_adds ?_ ?_; (with_reducible first | exact v8_0 | exact v8_1 | exact v8_2 | exact v8_3 | exact v8_4 | exact v8_5 | exact v8_6 | exact v8_7)) | (refine sf_u (by omega) ?_)))); done))) (cwV 2 hts gX6_picks_X6_of rfl rfl rfl (by decide +kernel) ⟨Nat.le_of_ble_eq_true rfl, Nat.le_of_ble_eq_true rfl⟩) hP hK hX hS 0 5 md_0 rfl rfl hl.1 rfl (Nat.le_of_ble_eq_true rfl) dX6_picks_62 ⟨Nat.zero_le _, Nat.zero_le _⟩ ?_
    refine lv_iconst (v := 1) hx hb dX6_picks_65 (by decide) ?_
    refine lv_iadd hx hb dX6_picks_66 ?_
    refine rwVv CF (c_X6_lays l D cI cC cW t _ _ _ _ _ _ _ (by first | (with_reducible first | assumption | exact m20 (by assumption) (by assumption) | exact ga20 (by assumption) (by assumption) | exact w2 (by assumption) | exact w2 (min4 (by assumption)) | exact w2 (s46 (by assumption)) | exact min4 (by assumption) | exact s46 (by assumption) | exact min11 (by assumption) (by assumption)) | (unfold vp_in; decide) | ((with_reducible (repeat (first | assumption | (refine sf_lays ?_ ?_ ?_; (with_reducible first | assumption | exact m20 (by assumption) (by assumption) | exact ga20 (by assumption) (by assumption)); (with_reducible first | exact v11_0 | exact v11_1 | exact v11_6 | exact v11_7 | exact v11_8 | exact v11_9 | exact v11_10 | exact w2 (by assumption) | exact w2 (min4 (by assumption)))) | (refine sf_adds ?_ ?_; (with_reducible first | exact v8_0 | exact v8_1 | exact v8_2 | exact v8_3 | exact v8_4 | exact v8_5 | exact v8_6 | exact v8_7)) | (refine sf_u (by omega) ?_)))); done)) (by first | (with_reducible first | assumption | exact m20 (by assumption) (by assumption) | exact ga20 (by assumption) (by assumption) | exact w2 (by assumption) | exact w2 (min4 (by assumption)) | exact w2 (s46 (by assumption)) | exact min4 (by assumption) | exact s46 (by assumption) | exact min11 (by assumption) (by assumption)) | (unfold vp_in; decide) | ((with_reducible (repeat (first | assumption | (refine sf_lays ?_ ?_ ?_; (with_reducible first | assumption | exact m20 (by assumption) (by assumption) | exact ga20 (by assumption) (by assumption)); (with_reducible first | exact v11_0 | exact v11_1 | exact v11_6 | exact v11_7 | exact v11_8 | exact v11_9 | exact v11_10 | exact w2 (by assumption) | exact w2 (min4 (by assumption)))) | (refine sf_adds ?_ ?_; (with_reducible first | exact v8_0 | exact v8_1 | exact v8_2 | exact v8_3 | exact v8_4 | exact v8_5 | exact v8_6 | exact v8_7)) | (refine sf_u (by omega) ?_)))); done))) (cwV 3 hts gX6_picks_X6_lays rfl rfl rfl (by decide +kernel) ⟨Nat.le_of_ble_eq_true rfl, Nat.le_of_ble_eq_true rfl⟩) hP hD hK hX hS hA 0 5 md_0 rfl rfl hl.1 rfl (Nat.le_of_ble_eq_true rfl) dX6_picks_67 ⟨Nat.zero_le _, Nat.zero_le _⟩ (fun H locs hP hD hS => ?_)
    refine lv_aload_n hx hb dX6_picks_70 rfl (lv_at hl 2 rfl) ?_
    refine lv_iload_n hx hb dX6_picks_71 rfl (lv_at hl 3 rfl) ?_
    refine lv_bipush (v := 10) hx hb dX6_picks_72 (by decide) ?_
    refine lv_aload_n hx hb dX6_picks_74 rfl (lv_at hl 2 rfl) ?_
    refine lv_iload_n hx hb dX6_picks_75 rfl (lv_at hl 3 rfl) ?_
    refine lv_bipush (v := 10) hx hb dX6_picks_76 (by decide) ?_
    refine roV CF (c_X6_of l D cI cC cW t _ _ _ _ _ (by first | (with_reducible first | assumption | exact m20 (by assumption) (by assumption) | exact ga20 (by assumption) (by assumption) | exact w2 (by assumption) | exact w2 (min4 (by assumption)) | exact w2 (s46 (by assumption)) | exact min4 (by assumption) | exact s46 (by assumption) | exact min11 (by assumption) (by assumption)) | (unfold vp_in; decide) | ((with_reducible (repeat (first | assumption | (refine sf_lays ?_ ?_ ?_; (with_reducible first | assumption | exact m20 (by assumption) (by assumption) | exact ga20 (by assumption) (by assumption)); (with_reducible first | exact v11_0 | exact v11_1 | exact v11_6 | exact v11_7 | exact v11_8 | exact v11_9 | exact v11_10 | exact w2 (by assumption) | exact w2 (min4 (by assumption)))) | (refine sf_adds ?_ ?_; (with_reducible first | exact v8_0 | exact v8_1 | exact v8_2 | exact v8_3 | exact v8_4 | exact v8_5 | exact v8_6 | exact v8_7)) | (refine sf_u (by omega) ?_)))); done)) (by first | (with_reducible first | assumption | exact m20 (by assumption) (by assumption) | exact ga20 (by assumption) (by assumption) | exact w2 (by assumption) | exact w2 (min4 (by assumption)) | exact w2 (s46 (by assumption)) | exact min4 (by assumption) | exact s46 (by assumption) | exact min11 (by assumption) (by assumption)) | (unfold vp_in; decide) | ((with_reducible (repeat (first | assumption | (refine sf_lays ?_ ?_ ?_; (with_reducible first | assumption | exact m20 (by assumption) (by assumption) | exact ga20 (by assumption) (by assumption)); (with_reducible first | exact v11_0 | exact v11_1 | exact v11_6 | exact v11_7 | exact v11_8 | exact v11_9 | exact v11_10 | exact w2 (by assumption) | exact w2 (min4 (by assumption)))) | (refine sf_adds ?_ ?_; (with_reducible first | exact v8_0 | exact v8_1 | exact v8_2 | exact v8_3 | exact v8_4 | exact v8_5 | exact v8_6 | exact v8_7)) | (refine sf_u (by omega) ?_)))); done))) (cwV 2 hts gX6_picks_X6_of rfl rfl rfl (by decide +kernel) ⟨Nat.le_of_ble_eq_true rfl, Nat.le_of_ble_eq_true rfl⟩) hP hK hX hS 0 5 md_0 rfl rfl hl.1 rfl (Nat.le_of_ble_eq_true rfl) dX6_picks_78 ⟨Nat.zero_le _, Nat.zero_le _⟩ ?_
    refine lv_iload_n hx hb dX6_picks_81 rfl (lv_at hl 4 rfl) ?_
    refine lv_iadd hx hb dX6_picks_82 ?_
    refine rwVv CF (c_X6_lays l D cI cC cW t _ _ _ _ _ _ _ (by first | (with_reducible first | assumption | exact m20 (by assumption) (by assumption) | exact ga20 (by assumption) (by assumption) | exact w2 (by assumption) | exact w2 (min4 (by assumption)) | exact w2 (s46 (by assumption)) | exact min4 (by assumption) | exact s46 (by assumption) | exact min11 (by assumption) (by assumption)) | (unfold vp_in; decide) | ((with_reducible (repeat (first | assumption | (refine sf_lays ?_ ?_ ?_; (with_reducible first | assumption | exact m20 (by assumption) (by assumption) | exact ga20 (by assumption) (by assumption)); (with_reducible first | exact v11_0 | exact v11_1 | exact v11_6 | exact v11_7 | exact v11_8 | exact v11_9 | exact v11_10 | exact w2 (by assumption) | exact w2 (min4 (by assumption)))) | (refine sf_adds ?_ ?_; (with_reducible first | exact v8_0 | exact v8_1 | exact v8_2 | exact v8_3 | exact v8_4 | exact v8_5 | exact v8_6 | exact v8_7)) | (refine sf_u (by omega) ?_)))); done)) (by first | (with_reducible first | assumption | exact m20 (by assumption) (by assumption) | exact ga20 (by assumption) (by assumption) | exact w2 (by assumption) | exact w2 (min4 (by assumption)) | exact w2 (s46 (by assumption)) | exact min4 (by assumption) | exact s46 (by assumption) | exact min11 (by assumption) (by assumption)) | (unfold vp_in; decide) | ((with_reducible (repeat (first | assumption | (refine sf_lays ?_ ?_ ?_; (with_reducible first | assumption | exact m20 (by assumption) (by assumption) | exact ga20 (by assumption) (by assumption)); (with_reducible first | exact v11_0 | exact v11_1 | exact v11_6 | exact v11_7 | exact v11_8 | exact v11_9 | exact v11_10 | exact w2 (by assumption) | exact w2 (min4 (by assumption)))) | (refine sf_adds ?_ ?_; (with_reducible first | exact v8_0 | exact v8_1 | exact v8_2 | exact v8_3 | exact v8_4 | exact v8_5 | exact v8_6 | exact v8_7)) | (refine sf_u (by omega) ?_)))); done))) (cwV 3 hts gX6_picks_X6_lays rfl rfl rfl (by decide +kernel) ⟨Nat.le_of_ble_eq_true rfl, Nat.le_of_ble_eq_true rfl⟩) hP hD hK hX hS hA 0 5 md_0 rfl rfl hl.1 rfl (Nat.le_of_ble_eq_true rfl) dX6_picks_83 ⟨Nat.zero_le _, Nat.zero_le _⟩ (fun H locs hP hD hS => ?_)
    refine lv_aload_n hx hb dX6_picks_86 rfl (lv_at hl 2 rfl) ?_
    refine lv_iconst (v := 0) hx hb dX6_picks_87 (by decide) ?_
    refine lv_iload hx hb dX6_picks_88 (lv_at hl 0 rfl) ?_
    refine rwVv CF (c_X6_adds l D cI cC cW t _ _ _ _ _ _ (by first | (with_reducible first | assumption | exact m20 (by assumption) (by assumption) | exact ga20 (by assumption) (by assumption) | exact w2 (by assumption) | exact w2 (min4 (by assumption)) | exact w2 (s46 (by assumption)) | exact min4 (by assumption) | exact s46 (by assumption) | exact min11 (by assumption) (by assumption)) | (unfold vp_in; decide) | ((with_reducible (repeat (first | assumption | (refine sf_lays ?_ ?_ ?_; (with_reducible first | assumption | exact m20 (by assumption) (by assumption) | exact ga20 (by assumption) (by assumption)); (with_reducible first | exact v11_0 | exact v11_1 | exact v11_6 | exact v11_7 | exact v11_8 | exact v11_9 | exact v11_10 | exact w2 (by assumption) | exact w2 (min4 (by assumption)))) | (refine sf_adds ?_ ?_; (with_reducible first | exact v8_0 | exact v8_1 | exact v8_2 | exact v8_3 | exact v8_4 | exact v8_5 | exact v8_6 | exact v8_7)) | (refine sf_u (by omega) ?_)))); done))) (cwV 2 hts gX6_picks_X6_adds rfl rfl rfl (by decide +kernel) ⟨Nat.le_of_ble_eq_true rfl, Nat.le_of_ble_eq_true rfl⟩) hP hD hK hX hS hA 0 5 md_0 rfl rfl hl.1 rfl (Nat.le_of_ble_eq_true rfl) dX6_picks_90 ⟨Nat.zero_le _, Nat.zero_le _⟩ (fun H locs hP hD hS => ?_)
    refine lv_aload_n hx hb dX6_picks_93 rfl (lv_at hl 2 rfl) ?_
    refine lv_bipush (v := 7) hx hb dX6_picks_94 (by decide) ?_
    refine lv_iconst (v := 1) hx hb dX6_picks_96 (by decide) ?_
    refine rwVv CF (c_X6_adds l D cI cC cW t _ _ _ _ _ _ (by first | (with_reducible first | assumption | exact m20 (by assumption) (by assumption) | exact ga20 (by assumption) (by assumption) | exact w2 (by assumption) | exact w2 (min4 (by assumption)) | exact w2 (s46 (by assumption)) | exact min4 (by assumption) | exact s46 (by assumption) | exact min11 (by assumption) (by assumption)) | (unfold vp_in; decide) | ((with_reducible (repeat (first | assumption | (refine sf_lays ?_ ?_ ?_; (with_reducible first | assumption | exact m20 (by assumption) (by assumption) | exact ga20 (by assumption) (by assumption)); (with_reducible first | exact v11_0 | exact v11_1 | exact v11_6 | exact v11_7 | exact v11_8 | exact v11_9 | exact v11_10 | exact w2 (by assumption) | exact w2 (min4 (by assumption)))) | (refine sf_adds ?_ ?_; (with_reducible first | exact v8_0 | exact v8_1 | exact v8_2 | exact v8_3 | exact v8_4 | exact v8_5 | exact v8_6 | exact v8_7)) | (refine sf_u (by omega) ?_)))); done))) (cwV 2 hts gX6_picks_X6_adds rfl rfl rfl (by decide +kernel) ⟨Nat.le_of_ble_eq_true rfl, Nat.le_of_ble_eq_true rfl⟩) hP hD hK hX hS hA 0 5 md_0 rfl rfl hl.1 rfl (Nat.le_of_ble_eq_true rfl) dX6_picks_97 ⟨Nat.zero_le _, Nat.zero_le _⟩ (fun H locs hP hD hS => ?_)
    refine lv_iload_n hx hb dX6_picks_100 rfl (lv_at hl 1 rfl) ?_
    refine lv_iload hx hb dX6_picks_101 (lv_at hl 0 rfl) ?_
    refine lv_iadd hx hb dX6_picks_103 ?_
    exact rw_ret _ hx hb hr hP hD hS (Eq.trans (if_pos c8) (rfl)) dX6_picks_104 hlocks
  · refine lv_aload_n hx hb dX6_picks_11 rfl (lv_at hl 0 rfl) ?_
    refine lv_iload_n hx hb dX6_picks_12 rfl (lv_at hl 1 rfl) ?_
    refine lv_aload_n hx hb dX6_picks_13 rfl (lv_at hl 0 rfl) ?_
    refine lv_iload_n hx hb dX6_picks_14 rfl (lv_at hl 1 rfl) ?_
    refine roV CF (c_X6_room l D cI cC cW t _ _ _ _ (by first | (with_reducible first | assumption | exact m20 (by assumption) (by assumption) | exact ga20 (by assumption) (by assumption) | exact w2 (by assumption) | exact w2 (min4 (by assumption)) | exact w2 (s46 (by assumption)) | exact min4 (by assumption) | exact s46 (by assumption) | exact min11 (by assumption) (by assumption)) | (unfold vp_in; decide) | ((with_reducible (repeat (first | assumption | (refine sf_lays ?_ ?_ ?_; (with_reducible first | assumption | exact m20 (by assumption) (by assumption) | exact ga20 (by assumption) (by assumption)); (with_reducible first | exact v11_0 | exact v11_1 | exact v11_6 | exact v11_7 | exact v11_8 | exact v11_9 | exact v11_10 | exact w2 (by assumption) | exact w2 (min4 (by assumption)))) | (refine sf_adds ?_ ?_; (with_reducible first | exact v8_0 | exact v8_1 | exact v8_2 | exact v8_3 | exact v8_4 | exact v8_5 | exact v8_6 | exact v8_7)) | (refine sf_u (by omega) ?_)))); done))) (cwV 1 hts gX6_picks_X6_room rfl rfl rfl (by decide +kernel) ⟨Nat.le_of_ble_eq_true rfl, Nat.le_of_ble_eq_true rfl⟩) hP hK hX hS 0 5 md_0 rfl rfl hl.1 rfl (Nat.le_of_ble_eq_true rfl) dX6_picks_15 ⟨Nat.zero_le _, Nat.zero_le _⟩ ?_
    refine rwV CF (c_X6_brings l D cI cC cW t _ _ _ _ _ _ (by first | (with_reducible first | assumption | exact m20 (by assumption) (by assumption) | exact ga20 (by assumption) (by assumption) | exact w2 (by assumption) | exact w2 (min4 (by assumption)) | exact w2 (s46 (by assumption)) | exact min4 (by assumption) | exact s46 (by assumption) | exact min11 (by assumption) (by assumption)) | (unfold vp_in; decide) | ((with_reducible (repeat (first | assumption | (refine sf_lays ?_ ?_ ?_; (with_reducible first | assumption | exact m20 (by assumption) (by assumption) | exact ga20 (by assumption) (by assumption)); (with_reducible first | exact v11_0 | exact v11_1 | exact v11_6 | exact v11_7 | exact v11_8 | exact v11_9 | exact v11_10 | exact w2 (by assumption) | exact w2 (min4 (by assumption)))) | (refine sf_adds ?_ ?_; (with_reducible first | exact v8_0 | exact v8_1 | exact v8_2 | exact v8_3 | exact v8_4 | exact v8_5 | exact v8_6 | exact v8_7)) | (refine sf_u (by omega) ?_)))); done)) (by first | (with_reducible first | assumption | exact m20 (by assumption) (by assumption) | exact ga20 (by assumption) (by assumption) | exact w2 (by assumption) | exact w2 (min4 (by assumption)) | exact w2 (s46 (by assumption)) | exact min4 (by assumption) | exact s46 (by assumption) | exact min11 (by assumption) (by assumption)) | (unfold vp_in; decide) | ((with_reducible (repeat (first | assumption | (refine sf_lays ?_ ?_ ?_; (with_reducible first | assumption | exact m20 (by assumption) (by assumption) | exact ga20 (by assumption) (by assumption)); (with_reducible first | exact v11_0 | exact v11_1 | exact v11_6 | exact v11_7 | exact v11_8 | exact v11_9 | exact v11_10 | exact w2 (by assumption) | exact w2 (min4 (by assumption)))) | (refine sf_adds ?_ ?_; (with_reducible first | exact v8_0 | exact v8_1 | exact v8_2 | exact v8_3 | exact v8_4 | exact v8_5 | exact v8_6 | exact v8_7)) | (refine sf_u (by omega) ?_)))); done))) (cwV 2 hts gX6_picks_X6_brings rfl rfl rfl (by decide +kernel) ⟨Nat.le_of_ble_eq_true rfl, Nat.le_of_ble_eq_true rfl⟩) hP hD hK hX hS hA 0 5 md_0 rfl rfl hl.1 rfl (Nat.le_of_ble_eq_true rfl) dX6_picks_18 ⟨Nat.zero_le _, Nat.zero_le _⟩ (fun H locs hP hD hS => ?_)
    refine lv_goto (tgt := 25) hx hb dX6_picks_21 (by decide) ?_
    refine lv_istore_n (lv' := [(3, .int _), (0, .ref _), (1, .int _), (2, .int _)]) hx hb dX6_picks_25 rfl hl (by decide) rfl (fun ls hl => ?_)
    refine lv_aload_n hx hb dX6_picks_26 rfl (lv_at hl 1 rfl) ?_
    refine lv_iload_n hx hb dX6_picks_27 rfl (lv_at hl 2 rfl) ?_
    refine lv_bipush (v := 6) hx hb dX6_picks_28 (by decide) ?_
    refine roV CF (c_X6_of l D cI cC cW t _ _ _ _ _ (by first | (with_reducible first | assumption | exact m20 (by assumption) (by assumption) | exact ga20 (by assumption) (by assumption) | exact w2 (by assumption) | exact w2 (min4 (by assumption)) | exact w2 (s46 (by assumption)) | exact min4 (by assumption) | exact s46 (by assumption) | exact min11 (by assumption) (by assumption)) | (unfold vp_in; decide) | ((with_reducible (repeat (first | assumption | (refine sf_lays ?_ ?_ ?_; (with_reducible first | assumption | exact m20 (by assumption) (by assumption) | exact ga20 (by assumption) (by assumption)); (with_reducible first | exact v11_0 | exact v11_1 | exact v11_6 | exact v11_7 | exact v11_8 | exact v11_9 | exact v11_10 | exact w2 (by assumption) | exact w2 (min4 (by assumption)))) | (refine sf_adds ?_ ?_; (with_reducible first | exact v8_0 | exact v8_1 | exact v8_2 | exact v8_3 | exact v8_4 | exact v8_5 | exact v8_6 | exact v8_7)) | (refine sf_u (by omega) ?_)))); done)) (by first | (with_reducible first | assumption | exact m20 (by assumption) (by assumption) | exact ga20 (by assumption) (by assumption) | exact w2 (by assumption) | exact w2 (min4 (by assumption)) | exact w2 (s46 (by assumption)) | exact min4 (by assumption) | exact s46 (by assumption) | exact min11 (by assumption) (by assumption)) | (unfold vp_in; decide) | ((with_reducible (repeat (first | assumption | (refine sf_lays ?_ ?_ ?_; (with_reducible first | assumption | exact m20 (by assumption) (by assumption) | exact ga20 (by assumption) (by assumption)); (with_reducible first | exact v11_0 | exact v11_1 | exact v11_6 | exact v11_7 | exact v11_8 | exact v11_9 | exact v11_10 | exact w2 (by assumption) | exact w2 (min4 (by assumption)))) | (refine sf_adds ?_ ?_; (with_reducible first | exact v8_0 | exact v8_1 | exact v8_2 | exact v8_3 | exact v8_4 | exact v8_5 | exact v8_6 | exact v8_7)) | (refine sf_u (by omega) ?_)))); done))) (cwV 2 hts gX6_picks_X6_of rfl rfl rfl (by decide +kernel) ⟨Nat.le_of_ble_eq_true rfl, Nat.le_of_ble_eq_true rfl⟩) hP hK hX hS 0 5 md_0 rfl rfl hl.1 rfl (Nat.le_of_ble_eq_true rfl) dX6_picks_30 ⟨Nat.zero_le _, Nat.zero_le _⟩ ?_
    refine roS CF (c_X6_walk l D cI cC cW t _ ) (va_cwS 1 hts gX6_picks_X6_walk rfl rfl rfl (by decide +kernel) ⟨Nat.le_of_ble_eq_true rfl, Nat.le_of_ble_eq_true rfl⟩) vP_nil hK hX hS rfl hl.1 rfl (Nat.le_of_ble_eq_true rfl) dX6_picks_33 ⟨Nat.zero_le _, Nat.zero_le _⟩ ?_
    refine lv_istore (lv' := [(4, .int _), (3, .int _), (0, .ref _), (1, .int _), (2, .int _)]) hx hb dX6_picks_36 hl (by decide) rfl (fun ls hl => ?_)
    refine lv_aload_n hx hb dX6_picks_38 rfl (lv_at hl 2 rfl) ?_
    refine lv_iload_n hx hb dX6_picks_39 rfl (lv_at hl 3 rfl) ?_
    refine lv_bipush (v := 7) hx hb dX6_picks_40 (by decide) ?_
    refine lv_aload_n hx hb dX6_picks_42 rfl (lv_at hl 2 rfl) ?_
    refine lv_iload_n hx hb dX6_picks_43 rfl (lv_at hl 3 rfl) ?_
    refine lv_bipush (v := 7) hx hb dX6_picks_44 (by decide) ?_
    refine roV CF (c_X6_of l D cI cC cW t _ _ _ _ _ (by first | (with_reducible first | assumption | exact m20 (by assumption) (by assumption) | exact ga20 (by assumption) (by assumption) | exact w2 (by assumption) | exact w2 (min4 (by assumption)) | exact w2 (s46 (by assumption)) | exact min4 (by assumption) | exact s46 (by assumption) | exact min11 (by assumption) (by assumption)) | (unfold vp_in; decide) | ((with_reducible (repeat (first | assumption | (refine sf_lays ?_ ?_ ?_; (with_reducible first | assumption | exact m20 (by assumption) (by assumption) | exact ga20 (by assumption) (by assumption)); (with_reducible first | exact v11_0 | exact v11_1 | exact v11_6 | exact v11_7 | exact v11_8 | exact v11_9 | exact v11_10 | exact w2 (by assumption) | exact w2 (min4 (by assumption)))) | (refine sf_adds ?_ ?_; (with_reducible first | exact v8_0 | exact v8_1 | exact v8_2 | exact v8_3 | exact v8_4 | exact v8_5 | exact v8_6 | exact v8_7)) | (refine sf_u (by omega) ?_)))); done)) (by first | (with_reducible first | assumption | exact m20 (by assumption) (by assumption) | exact ga20 (by assumption) (by assumption) | exact w2 (by assumption) | exact w2 (min4 (by assumption)) | exact w2 (s46 (by assumption)) | exact min4 (by assumption) | exact s46 (by assumption) | exact min11 (by assumption) (by assumption)) | (unfold vp_in; decide) | ((with_reducible (repeat (first | assumption | (refine sf_lays ?_ ?_ ?_; (with_reducible first | assumption | exact m20 (by assumption) (by assumption) | exact ga20 (by assumption) (by assumption)); (with_reducible first | exact v11_0 | exact v11_1 | exact v11_6 | exact v11_7 | exact v11_8 | exact v11_9 | exact v11_10 | exact w2 (by assumption) | exact w2 (min4 (by assumption)))) | (refine sf_adds ?_ ?_; (with_reducible first | exact v8_0 | exact v8_1 | exact v8_2 | exact v8_3 | exact v8_4 | exact v8_5 | exact v8_6 | exact v8_7)) | (refine sf_u (by omega) ?_)))); done))) (cwV 2 hts gX6_picks_X6_of rfl rfl rfl (by decide +kernel) ⟨Nat.le_of_ble_eq_true rfl, Nat.le_of_ble_eq_true rfl⟩) hP hK hX hS 0 5 md_0 rfl rfl hl.1 rfl (Nat.le_of_ble_eq_true rfl) dX6_picks_46 ⟨Nat.zero_le _, Nat.zero_le _⟩ ?_
    refine lv_iload_n hx hb dX6_picks_49 rfl (lv_at hl 4 rfl) ?_
    refine lv_isub hx hb dX6_picks_50 ?_
    refine rwVv CF (c_X6_lays l D cI cC cW t _ _ _ _ _ _ _ (by first | (with_reducible first | assumption | exact m20 (by assumption) (by assumption) | exact ga20 (by assumption) (by assumption) | exact w2 (by assumption) | exact w2 (min4 (by assumption)) | exact w2 (s46 (by assumption)) | exact min4 (by assumption) | exact s46 (by assumption) | exact min11 (by assumption) (by assumption)) | (unfold vp_in; decide) | ((with_reducible (repeat (first | assumption | (refine sf_lays ?_ ?_ ?_; (with_reducible first | assumption | exact m20 (by assumption) (by assumption) | exact ga20 (by assumption) (by assumption)); (with_reducible first | exact v11_0 | exact v11_1 | exact v11_6 | exact v11_7 | exact v11_8 | exact v11_9 | exact v11_10 | exact w2 (by assumption) | exact w2 (min4 (by assumption)))) | (refine sf_adds ?_ ?_; (with_reducible first | exact v8_0 | exact v8_1 | exact v8_2 | exact v8_3 | exact v8_4 | exact v8_5 | exact v8_6 | exact v8_7)) | (refine sf_u (by omega) ?_)))); done)) (by first | (with_reducible first | assumption | exact m20 (by assumption) (by assumption) | exact ga20 (by assumption) (by assumption) | exact w2 (by assumption) | exact w2 (min4 (by assumption)) | exact w2 (s46 (by assumption)) | exact min4 (by assumption) | exact s46 (by assumption) | exact min11 (by assumption) (by assumption)) | (unfold vp_in; decide) | ((with_reducible (repeat (first | assumption | (refine sf_lays ?_ ?_ ?_; (with_reducible first | assumption | exact m20 (by assumption) (by assumption) | exact ga20 (by assumption) (by assumption)); (with_reducible first | exact v11_0 | exact v11_1 | exact v11_6 | exact v11_7 | exact v11_8 | exact v11_9 | exact v11_10 | exact w2 (by assumption) | exact w2 (min4 (by assumption)))) | (refine sf_adds ?_ ?_; (with_reducible first | exact v8_0 | exact v8_1 | exact v8_2 | exact v8_3 | exact v8_4 | exact v8_5 | exact v8_6 | exact v8_7)) | (refine sf_u (by omega) ?_)))); done))) (cwV 3 hts gX6_picks_X6_lays rfl rfl rfl (by decide +kernel) ⟨Nat.le_of_ble_eq_true rfl, Nat.le_of_ble_eq_true rfl⟩) hP hD hK hX hS hA 0 5 md_0 rfl rfl hl.1 rfl (Nat.le_of_ble_eq_true rfl) dX6_picks_51 ⟨Nat.zero_le _, Nat.zero_le _⟩ (fun H locs hP hD hS => ?_)
    refine lv_aload_n hx hb dX6_picks_54 rfl (lv_at hl 2 rfl) ?_
    refine lv_iload_n hx hb dX6_picks_55 rfl (lv_at hl 3 rfl) ?_
    refine lv_bipush (v := 9) hx hb dX6_picks_56 (by decide) ?_
    refine lv_aload_n hx hb dX6_picks_58 rfl (lv_at hl 2 rfl) ?_
    refine lv_iload_n hx hb dX6_picks_59 rfl (lv_at hl 3 rfl) ?_
    refine lv_bipush (v := 9) hx hb dX6_picks_60 (by decide) ?_
    refine roV CF (c_X6_of l D cI cC cW t _ _ _ _ _ (by first | (with_reducible first | assumption | exact m20 (by assumption) (by assumption) | exact ga20 (by assumption) (by assumption) | exact w2 (by assumption) | exact w2 (min4 (by assumption)) | exact w2 (s46 (by assumption)) | exact min4 (by assumption) | exact s46 (by assumption) | exact min11 (by assumption) (by assumption)) | (unfold vp_in; decide) | ((with_reducible (repeat (first | assumption | (refine sf_lays ?_ ?_ ?_; (with_reducible first | assumption | exact m20 (by assumption) (by assumption) | exact ga20 (by assumption) (by assumption)); (with_reducible first | exact v11_0 | exact v11_1 | exact v11_6 | exact v11_7 | exact v11_8 | exact v11_9 | exact v11_10 | exact w2 (by assumption) | exact w2 (min4 (by assumption)))) | (refine sf_adds ?_ ?_; (with_reducible first | exact v8_0 | exact v8_1 | exact v8_2 | exact v8_3 | exact v8_4 | exact v8_5 | exact v8_6 | exact v8_7)) | (refine sf_u (by omega) ?_)))); done)) (by first | (with_reducible first | assumption | exact m20 (by assumption) (by assumption) | exact ga20 (by assumption) (by assumption) | exact w2 (by assumption) | exact w2 (min4 (by assumption)) | exact w2 (s46 (by assumption)) | exact min4 (by assumption) | exact s46 (by assumption) | exact min11 (by assumption) (by assumption)) | (unfold vp_in; decide) | ((with_reducible (repeat (first | assumption | (refine sf_lays ?_ ?_ ?_; (with_reducible first | assumption | exact m20 (by assumption) (by assumption) | exact ga20 (by assumption) (by assumption)); (with_reducible first | exact v11_0 | exact v11_1 | exact v11_6 | exact v11_7 | exact v11_8 | exact v11_9 | exact v11_10 | exact w2 (by assumption) | exact w2 (min4 (by assumption)))) | (refine sf_adds ?_ ?_; (with_reducible first | exact v8_0 | exact v8_1 | exact v8_2 | exact v8_3 | exact v8_4 | exact v8_5 | exact v8_6 | exact v8_7)) | (refine sf_u (by omega) ?_)))); done))) (cwV 2 hts gX6_picks_X6_of rfl rfl rfl (by decide +kernel) ⟨Nat.le_of_ble_eq_true rfl, Nat.le_of_ble_eq_true rfl⟩) hP hK hX hS 0 5 md_0 rfl rfl hl.1 rfl (Nat.le_of_ble_eq_true rfl) dX6_picks_62 ⟨Nat.zero_le _, Nat.zero_le _⟩ ?_
    refine lv_iconst (v := 1) hx hb dX6_picks_65 (by decide) ?_
    refine lv_iadd hx hb dX6_picks_66 ?_
    refine rwVv CF (c_X6_lays l D cI cC cW t _ _ _ _ _ _ _ (by first | (with_reducible first | assumption | exact m20 (by assumption) (by assumption) | exact ga20 (by assumption) (by assumption) | exact w2 (by assumption) | exact w2 (min4 (by assumption)) | exact w2 (s46 (by assumption)) | exact min4 (by assumption) | exact s46 (by assumption) | exact min11 (by assumption) (by assumption)) | (unfold vp_in; decide) | ((with_reducible (repeat (first | assumption | (refine sf_lays ?_ ?_ ?_; (with_reducible first | assumption | exact m20 (by assumption) (by assumption) | exact ga20 (by assumption) (by assumption)); (with_reducible first | exact v11_0 | exact v11_1 | exact v11_6 | exact v11_7 | exact v11_8 | exact v11_9 | exact v11_10 | exact w2 (by assumption) | exact w2 (min4 (by assumption)))) | (refine sf_adds ?_ ?_; (with_reducible first | exact v8_0 | exact v8_1 | exact v8_2 | exact v8_3 | exact v8_4 | exact v8_5 | exact v8_6 | exact v8_7)) | (refine sf_u (by omega) ?_)))); done)) (by first | (with_reducible first | assumption | exact m20 (by assumption) (by assumption) | exact ga20 (by assumption) (by assumption) | exact w2 (by assumption) | exact w2 (min4 (by assumption)) | exact w2 (s46 (by assumption)) | exact min4 (by assumption) | exact s46 (by assumption) | exact min11 (by assumption) (by assumption)) | (unfold vp_in; decide) | ((with_reducible (repeat (first | assumption | (refine sf_lays ?_ ?_ ?_; (with_reducible first | assumption | exact m20 (by assumption) (by assumption) | exact ga20 (by assumption) (by assumption)); (with_reducible first | exact v11_0 | exact v11_1 | exact v11_6 | exact v11_7 | exact v11_8 | exact v11_9 | exact v11_10 | exact w2 (by assumption) | exact w2 (min4 (by assumption)))) | (refine sf_adds ?_ ?_; (with_reducible first | exact v8_0 | exact v8_1 | exact v8_2 | exact v8_3 | exact v8_4 | exact v8_5 | exact v8_6 | exact v8_7)) | (refine sf_u (by omega) ?_)))); done))) (cwV 3 hts gX6_picks_X6_lays rfl rfl rfl (by decide +kernel) ⟨Nat.le_of_ble_eq_true rfl, Nat.le_of_ble_eq_true rfl⟩) hP hD hK hX hS hA 0 5 md_0 rfl rfl hl.1 rfl (Nat.le_of_ble_eq_true rfl) dX6_picks_67 ⟨Nat.zero_le _, Nat.zero_le _⟩ (fun H locs hP hD hS => ?_)
    refine lv_aload_n hx hb dX6_picks_70 rfl (lv_at hl 2 rfl) ?_
    refine lv_iload_n hx hb dX6_picks_71 rfl (lv_at hl 3 rfl) ?_
    refine lv_bipush (v := 10) hx hb dX6_picks_72 (by decide) ?_
    refine lv_aload_n hx hb dX6_picks_74 rfl (lv_at hl 2 rfl) ?_
    refine lv_iload_n hx hb dX6_picks_75 rfl (lv_at hl 3 rfl) ?_
    refine lv_bipush (v := 10) hx hb dX6_picks_76 (by decide) ?_
    refine roV CF (c_X6_of l D cI cC cW t _ _ _ _ _ (by first | (with_reducible first | assumption | exact m20 (by assumption) (by assumption) | exact ga20 (by assumption) (by assumption) | exact w2 (by assumption) | exact w2 (min4 (by assumption)) | exact w2 (s46 (by assumption)) | exact min4 (by assumption) | exact s46 (by assumption) | exact min11 (by assumption) (by assumption)) | (unfold vp_in; decide) | ((with_reducible (repeat (first | assumption | (refine sf_lays ?_ ?_ ?_; (with_reducible first | assumption | exact m20 (by assumption) (by assumption) | exact ga20 (by assumption) (by assumption)); (with_reducible first | exact v11_0 | exact v11_1 | exact v11_6 | exact v11_7 | exact v11_8 | exact v11_9 | exact v11_10 | exact w2 (by assumption) | exact w2 (min4 (by assumption)))) | (refine sf_adds ?_ ?_; (with_reducible first | exact v8_0 | exact v8_1 | exact v8_2 | exact v8_3 | exact v8_4 | exact v8_5 | exact v8_6 | exact v8_7)) | (refine sf_u (by omega) ?_)))); done)) (by first | (with_reducible first | assumption | exact m20 (by assumption) (by assumption) | exact ga20 (by assumption) (by assumption) | exact w2 (by assumption) | exact w2 (min4 (by assumption)) | exact w2 (s46 (by assumption)) | exact min4 (by assumption) | exact s46 (by assumption) | exact min11 (by assumption) (by assumption)) | (unfold vp_in; decide) | ((with_reducible (repeat (first | assumption | (refine sf_lays ?_ ?_ ?_; (with_reducible first | assumption | exact m20 (by assumption) (by assumption) | exact ga20 (by assumption) (by assumption)); (with_reducible first | exact v11_0 | exact v11_1 | exact v11_6 | exact v11_7 | exact v11_8 | exact v11_9 | exact v11_10 | exact w2 (by assumption) | exact w2 (min4 (by assumption)))) | (refine sf_adds ?_ ?_; (with_reducible first | exact v8_0 | exact v8_1 | exact v8_2 | exact v8_3 | exact v8_4 | exact v8_5 | exact v8_6 | exact v8_7)) | (refine sf_u (by omega) ?_)))); done))) (cwV 2 hts gX6_picks_X6_of rfl rfl rfl (by decide +kernel) ⟨Nat.le_of_ble_eq_true rfl, Nat.le_of_ble_eq_true rfl⟩) hP hK hX hS 0 5 md_0 rfl rfl hl.1 rfl (Nat.le_of_ble_eq_true rfl) dX6_picks_78 ⟨Nat.zero_le _, Nat.zero_le _⟩ ?_
    refine lv_iload_n hx hb dX6_picks_81 rfl (lv_at hl 4 rfl) ?_
    refine lv_iadd hx hb dX6_picks_82 ?_
    refine rwVv CF (c_X6_lays l D cI cC cW t _ _ _ _ _ _ _ (by first | (with_reducible first | assumption | exact m20 (by assumption) (by assumption) | exact ga20 (by assumption) (by assumption) | exact w2 (by assumption) | exact w2 (min4 (by assumption)) | exact w2 (s46 (by assumption)) | exact min4 (by assumption) | exact s46 (by assumption) | exact min11 (by assumption) (by assumption)) | (unfold vp_in; decide) | ((with_reducible (repeat (first | assumption | (refine sf_lays ?_ ?_ ?_; (with_reducible first | assumption | exact m20 (by assumption) (by assumption) | exact ga20 (by assumption) (by assumption)); (with_reducible first | exact v11_0 | exact v11_1 | exact v11_6 | exact v11_7 | exact v11_8 | exact v11_9 | exact v11_10 | exact w2 (by assumption) | exact w2 (min4 (by assumption)))) | (refine sf_adds ?_ ?_; (with_reducible first | exact v8_0 | exact v8_1 | exact v8_2 | exact v8_3 | exact v8_4 | exact v8_5 | exact v8_6 | exact v8_7)) | (refine sf_u (by omega) ?_)))); done)) (by first | (with_reducible first | assumption | exact m20 (by assumption) (by assumption) | exact ga20 (by assumption) (by assumption) | exact w2 (by assumption) | exact w2 (min4 (by assumption)) | exact w2 (s46 (by assumption)) | exact min4 (by assumption) | exact s46 (by assumption) | exact min11 (by assumption) (by assumption)) | (unfold vp_in; decide) | ((with_reducible (repeat (first | assumption | (refine sf_lays ?_ ?_ ?_; (with_reducible first | assumption | exact m20 (by assumption) (by assumption) | exact ga20 (by assumption) (by assumption)); (with_reducible first | exact v11_0 | exact v11_1 | exact v11_6 | exact v11_7 | exact v11_8 | exact v11_9 | exact v11_10 | exact w2 (by assumption) | exact w2 (min4 (by assumption)))) | (refine sf_adds ?_ ?_; (with_reducible first | exact v8_0 | exact v8_1 | exact v8_2 | exact v8_3 | exact v8_4 | exact v8_5 | exact v8_6 | exact v8_7)) | (refine sf_u (by omega) ?_)))); done))) (cwV 3 hts gX6_picks_X6_lays rfl rfl rfl (by decide +kernel) ⟨Nat.le_of_ble_eq_true rfl, Nat.le_of_ble_eq_true rfl⟩) hP hD hK hX hS hA 0 5 md_0 rfl rfl hl.1 rfl (Nat.le_of_ble_eq_true rfl) dX6_picks_83 ⟨Nat.zero_le _, Nat.zero_le _⟩ (fun H locs hP hD hS => ?_)
    refine lv_aload_n hx hb dX6_picks_86 rfl (lv_at hl 2 rfl) ?_
    refine lv_iconst (v := 0) hx hb dX6_picks_87 (by decide) ?_
    refine lv_iload hx hb dX6_picks_88 (lv_at hl 0 rfl) ?_
    refine rwVv CF (c_X6_adds l D cI cC cW t _ _ _ _ _ _ (by first | (with_reducible first | assumption | exact m20 (by assumption) (by assumption) | exact ga20 (by assumption) (by assumption) | exact w2 (by assumption) | exact w2 (min4 (by assumption)) | exact w2 (s46 (by assumption)) | exact min4 (by assumption) | exact s46 (by assumption) | exact min11 (by assumption) (by assumption)) | (unfold vp_in; decide) | ((with_reducible (repeat (first | assumption | (refine sf_lays ?_ ?_ ?_; (with_reducible first | assumption | exact m20 (by assumption) (by assumption) | exact ga20 (by assumption) (by assumption)); (with_reducible first | exact v11_0 | exact v11_1 | exact v11_6 | exact v11_7 | exact v11_8 | exact v11_9 | exact v11_10 | exact w2 (by assumption) | exact w2 (min4 (by assumption)))) | (refine sf_adds ?_ ?_; (with_reducible first | exact v8_0 | exact v8_1 | exact v8_2 | exact v8_3 | exact v8_4 | exact v8_5 | exact v8_6 | exact v8_7)) | (refine sf_u (by omega) ?_)))); done))) (cwV 2 hts gX6_picks_X6_adds rfl rfl rfl (by decide +kernel) ⟨Nat.le_of_ble_eq_true rfl, Nat.le_of_ble_eq_true rfl⟩) hP hD hK hX hS hA 0 5 md_0 rfl rfl hl.1 rfl (Nat.le_of_ble_eq_true rfl) dX6_picks_90 ⟨Nat.zero_le _, Nat.zero_le _⟩ (fun H locs hP hD hS => ?_)
    refine lv_aload_n hx hb dX6_picks_93 rfl (lv_at hl 2 rfl) ?_
    refine lv_bipush (v := 7) hx hb dX6_picks_94 (by decide) ?_
    refine lv_iconst (v := 1) hx hb dX6_picks_96 (by decide) ?_
    refine rwVv CF (c_X6_adds l D cI cC cW t _ _ _ _ _ _ (by first | (with_reducible first | assumption | exact m20 (by assumption) (by assumption) | exact ga20 (by assumption) (by assumption) | exact w2 (by assumption) | exact w2 (min4 (by assumption)) | exact w2 (s46 (by assumption)) | exact min4 (by assumption) | exact s46 (by assumption) | exact min11 (by assumption) (by assumption)) | (unfold vp_in; decide) | ((with_reducible (repeat (first | assumption | (refine sf_lays ?_ ?_ ?_; (with_reducible first | assumption | exact m20 (by assumption) (by assumption) | exact ga20 (by assumption) (by assumption)); (with_reducible first | exact v11_0 | exact v11_1 | exact v11_6 | exact v11_7 | exact v11_8 | exact v11_9 | exact v11_10 | exact w2 (by assumption) | exact w2 (min4 (by assumption)))) | (refine sf_adds ?_ ?_; (with_reducible first | exact v8_0 | exact v8_1 | exact v8_2 | exact v8_3 | exact v8_4 | exact v8_5 | exact v8_6 | exact v8_7)) | (refine sf_u (by omega) ?_)))); done))) (cwV 2 hts gX6_picks_X6_adds rfl rfl rfl (by decide +kernel) ⟨Nat.le_of_ble_eq_true rfl, Nat.le_of_ble_eq_true rfl⟩) hP hD hK hX hS hA 0 5 md_0 rfl rfl hl.1 rfl (Nat.le_of_ble_eq_true rfl) dX6_picks_97 ⟨Nat.zero_le _, Nat.zero_le _⟩ (fun H locs hP hD hS => ?_)
    refine lv_iload_n hx hb dX6_picks_100 rfl (lv_at hl 1 rfl) ?_
    refine lv_iload hx hb dX6_picks_101 (lv_at hl 0 rfl) ?_
    refine lv_iadd hx hb dX6_picks_103 ?_
    exact rw_ret _ hx hb hr hP hD hS (Eq.trans (if_neg c8) (rfl)) dX6_picks_104 hlocks

def sp_X6_canRefill (N : Nat → Int32) (Z : Nat → Nat → Int32) (x1 : Int32) : Int32 :=
  if (sp_X6_of N Z x1 (6 : Int32)) = (-1 : Int32) then ((0 : Int32)) else (if (sp_X6_room N Z x1) ≤ 0 then ((0 : Int32)) else ((1 : Int32)))
set_option maxHeartbeats 4000000 in
set_option maxRecDepth 100000 in
theorem c_X6_canRefill (l : Launch) (D : va_G) (cI cC cW : ClassId) (t : Nat → Nat) (a : Nat → Nat) (N : Nat → Int32) (Z : Nat → Nat → Int32) (x1 : Int32) (h1 : vp_in x1 20) : Met l yX6_canRefill wsX6_canRefill ({ frames := 2, cells := 0, slots := 0, locals := 44 }) (va_Pc [.ref (a 0), .int x1] (roP D (tyL cI cC cW) (md cI a N Z) t)) (vp_Si (fun r => r = sp_X6_canRefill N Z x1)) 0 0 (fun _ => False) := by
  refine Met.ofW (cc := cX6_canRefill) (maxL := 2) (ret := (some .boolean)) (by decide) rfl ?_
  intro p e s m args below meth c s₁ B hml hv
  obtain ⟨rfl, hP, hK, hX⟩ := hv
  have hx := B.exec
  have hb := B.bytes
  have hr := B.returns
  have hts := atoms_spec (ws := wsX6_canRefill) B.pre
  have hown : s.vm.findClass RX6 = some m.cls := findClass_of_methodNamed B.named
  have hlocks := B.notSynchronized
  have hS : va_S (fun _ => False) s.heap s.heap [] := va_S.rf
  have CF : CallFix p m c cX6_canRefill 2 s [.ref (a 0), .int x1].toArray wsX6_canRefill RX6 := ⟨hx, hb, hml, hown, hts⟩
  have hl := lv_entry ([.ref (a 0), .int x1]) (n := 2) (Nat.le_of_ble_eq_true rfl)
  rw [lg_entry_eq]
  generalize (lg_sl ([.ref (a 0), .int x1]) ++ List.replicate (2 - (lg_sl ([.ref (a 0), .int x1])).length) Slot.unset).toArray = ls at hl ⊢
  have hl : lv_has ls 2 [(0, .ref (a 0)), (1, .int x1)] := hl
  refine lv_aload_n hx hb dX6_canRefill_0 rfl (lv_at hl 0 rfl) ?_
  refine lv_iload_n hx hb dX6_canRefill_1 rfl (lv_at hl 1 rfl) ?_
  refine lv_bipush (v := 6) hx hb dX6_canRefill_2 (by decide) ?_
  refine roV CF (c_X6_of l D cI cC cW t _ _ _ _ _ (by first | (with_reducible first | assumption | exact m20 (by assumption) (by assumption) | exact ga20 (by assumption) (by assumption) | exact w2 (by assumption) | exact w2 (min4 (by assumption)) | exact w2 (s46 (by assumption)) | exact min4 (by assumption) | exact s46 (by assumption) | exact min11 (by assumption) (by assumption)) | (unfold vp_in; decide) | ((with_reducible (repeat (first | assumption | (refine sf_lays ?_ ?_ ?_; (with_reducible first | assumption | exact m20 (by assumption) (by assumption) | exact ga20 (by assumption) (by assumption)); (with_reducible first | exact v11_0 | exact v11_1 | exact v11_6 | exact v11_7 | exact v11_8 | exact v11_9 | exact v11_10 | exact w2 (by assumption) | exact w2 (min4 (by assumption)))) | (refine sf_adds ?_ ?_; (with_reducible first | exact v8_0 | exact v8_1 | exact v8_2 | exact v8_3 | exact v8_4 | exact v8_5 | exact v8_6 | exact v8_7)) | (refine sf_u (by omega) ?_)))); done)) (by first | (with_reducible first | assumption | exact m20 (by assumption) (by assumption) | exact ga20 (by assumption) (by assumption) | exact w2 (by assumption) | exact w2 (min4 (by assumption)) | exact w2 (s46 (by assumption)) | exact min4 (by assumption) | exact s46 (by assumption) | exact min11 (by assumption) (by assumption)) | (unfold vp_in; decide) | ((with_reducible (repeat (first | assumption | (refine sf_lays ?_ ?_ ?_; (with_reducible first | assumption | exact m20 (by assumption) (by assumption) | exact ga20 (by assumption) (by assumption)); (with_reducible first | exact v11_0 | exact v11_1 | exact v11_6 | exact v11_7 | exact v11_8 | exact v11_9 | exact v11_10 | exact w2 (by assumption) | exact w2 (min4 (by assumption)))) | (refine sf_adds ?_ ?_; (with_reducible first | exact v8_0 | exact v8_1 | exact v8_2 | exact v8_3 | exact v8_4 | exact v8_5 | exact v8_6 | exact v8_7)) | (refine sf_u (by omega) ?_)))); done))) (cwV 2 hts gX6_canRefill_X6_of rfl rfl rfl (by decide +kernel) ⟨Nat.le_of_ble_eq_true rfl, Nat.le_of_ble_eq_true rfl⟩) hP hK hX hS 0 5 md_0 rfl rfl hl.1 rfl (Nat.le_of_ble_eq_true rfl) dX6_canRefill_4 ⟨Nat.zero_le _, Nat.zero_le _⟩ ?_
  refine lv_iconst (v := -1) hx hb dX6_canRefill_7 (by decide) ?_
  refine lv_icmp_eq (tgt := 23) hx hb dX6_canRefill_8 (by decide) (fun c8 => ?_) (fun c8 => ?_)
  · refine lv_iconst (v := 0) hx hb dX6_canRefill_23 (by decide) ?_
    exact ro_zret hx hb hr (rfl) (Eq.trans (if_pos c8) (rfl)) dX6_canRefill_24 hlocks
  · refine lv_aload_n hx hb dX6_canRefill_11 rfl (lv_at hl 0 rfl) ?_
    refine lv_iload_n hx hb dX6_canRefill_12 rfl (lv_at hl 1 rfl) ?_
    refine roV CF (c_X6_room l D cI cC cW t _ _ _ _ (by first | (with_reducible first | assumption | exact m20 (by assumption) (by assumption) | exact ga20 (by assumption) (by assumption) | exact w2 (by assumption) | exact w2 (min4 (by assumption)) | exact w2 (s46 (by assumption)) | exact min4 (by assumption) | exact s46 (by assumption) | exact min11 (by assumption) (by assumption)) | (unfold vp_in; decide) | ((with_reducible (repeat (first | assumption | (refine sf_lays ?_ ?_ ?_; (with_reducible first | assumption | exact m20 (by assumption) (by assumption) | exact ga20 (by assumption) (by assumption)); (with_reducible first | exact v11_0 | exact v11_1 | exact v11_6 | exact v11_7 | exact v11_8 | exact v11_9 | exact v11_10 | exact w2 (by assumption) | exact w2 (min4 (by assumption)))) | (refine sf_adds ?_ ?_; (with_reducible first | exact v8_0 | exact v8_1 | exact v8_2 | exact v8_3 | exact v8_4 | exact v8_5 | exact v8_6 | exact v8_7)) | (refine sf_u (by omega) ?_)))); done))) (cwV 1 hts gX6_canRefill_X6_room rfl rfl rfl (by decide +kernel) ⟨Nat.le_of_ble_eq_true rfl, Nat.le_of_ble_eq_true rfl⟩) hP hK hX hS 0 5 md_0 rfl rfl hl.1 rfl (Nat.le_of_ble_eq_true rfl) dX6_canRefill_13 ⟨Nat.zero_le _, Nat.zero_le _⟩ ?_
    refine lv_if_le (tgt := 23) hx hb dX6_canRefill_16 (by decide) (fun c16 => ?_) (fun c16 => ?_)
    · refine lv_iconst (v := 0) hx hb dX6_canRefill_23 (by decide) ?_
      exact ro_zret hx hb hr (rfl) (Eq.trans (if_neg c8) (Eq.trans (if_pos c16) (rfl))) dX6_canRefill_24 hlocks
    · refine lv_iconst (v := 1) hx hb dX6_canRefill_19 (by decide) ?_
      refine lv_goto (tgt := 24) hx hb dX6_canRefill_20 (by decide) ?_
      exact ro_zret hx hb hr (rfl) (Eq.trans (if_neg c8) (Eq.trans (if_neg c16) (rfl))) dX6_canRefill_24 hlocks
theorem zb_X6_canRefill {N : Nat → Int32} {Z : Nat → Nat → Int32} {x1 : Int32} : narrow .boolean (.int (sp_X6_canRefill N Z x1)) = .int (sp_X6_canRefill N Z x1) := by
  unfold sp_X6_canRefill
  (repeat' split) <;> first | rfl

def sp_X6_canMove (N : Nat → Int32) (Z : Nat → Nat → Int32) (x1 x2 : Int32) : Int32 :=
  if (sp_X6_of N Z x1 (6 : Int32)) = (-1 : Int32) then ((0 : Int32)) else (if (sp_X6_goodAt N Z x2) = (-1 : Int32) then (if (sp_X6_mayBe N Z x1 x2) = 0 then ((0 : Int32)) else ((1 : Int32))) else ((0 : Int32)))
set_option maxHeartbeats 4000000 in
set_option maxRecDepth 100000 in
theorem c_X6_canMove (l : Launch) (D : va_G) (cI cC cW : ClassId) (t : Nat → Nat) (a : Nat → Nat) (N : Nat → Int32) (Z : Nat → Nat → Int32) (x1 x2 : Int32) (hsf : sfN N) (h1 : vp_in x1 20) : Met l yX6_canMove wsX6_canMove ({ frames := 2, cells := 0, slots := 0, locals := 44 }) (va_Pc [.ref (a 0), .int x1, .int x2] (roP D (tyL cI cC cW) (md cI a N Z) t)) (vp_Si (fun r => r = sp_X6_canMove N Z x1 x2)) 0 0 (fun _ => False) := by
  refine Met.ofW (cc := cX6_canMove) (maxL := 3) (ret := (some .boolean)) (by decide) rfl ?_
  intro p e s m args below meth c s₁ B hml hv
  obtain ⟨rfl, hP, hK, hX⟩ := hv
  have hx := B.exec
  have hb := B.bytes
  have hr := B.returns
  have hts := atoms_spec (ws := wsX6_canMove) B.pre
  have hown : s.vm.findClass RX6 = some m.cls := findClass_of_methodNamed B.named
  have hlocks := B.notSynchronized
  have hS : va_S (fun _ => False) s.heap s.heap [] := va_S.rf
  have CF : CallFix p m c cX6_canMove 3 s [.ref (a 0), .int x1, .int x2].toArray wsX6_canMove RX6 := ⟨hx, hb, hml, hown, hts⟩
  have hl := lv_entry ([.ref (a 0), .int x1, .int x2]) (n := 3) (Nat.le_of_ble_eq_true rfl)
  rw [lg_entry_eq]
  generalize (lg_sl ([.ref (a 0), .int x1, .int x2]) ++ List.replicate (3 - (lg_sl ([.ref (a 0), .int x1, .int x2])).length) Slot.unset).toArray = ls at hl ⊢
  have hl : lv_has ls 3 [(0, .ref (a 0)), (1, .int x1), (2, .int x2)] := hl
  refine lv_aload_n hx hb dX6_canMove_0 rfl (lv_at hl 0 rfl) ?_
  refine lv_iload_n hx hb dX6_canMove_1 rfl (lv_at hl 1 rfl) ?_
  refine lv_bipush (v := 6) hx hb dX6_canMove_2 (by decide) ?_
  refine roV CF (c_X6_of l D cI cC cW t _ _ _ _ _ (by first | (with_reducible first | assumption | exact m20 (by assumption) (by assumption) | exact ga20 (by assumption) (by assumption) | exact w2 (by assumption) | exact w2 (min4 (by assumption)) | exact w2 (s46 (by assumption)) | exact min4 (by assumption) | exact s46 (by assumption) | exact min11 (by assumption) (by assumption)) | (unfold vp_in; decide) | ((with_reducible (repeat (first | assumption | (refine sf_lays ?_ ?_ ?_; (with_reducible first | assumption | exact m20 (by assumption) (by assumption) | exact ga20 (by assumption) (by assumption)); (with_reducible first | exact v11_0 | exact v11_1 | exact v11_6 | exact v11_7 | exact v11_8 | exact v11_9 | exact v11_10 | exact w2 (by assumption) | exact w2 (min4 (by assumption)))) | (refine sf_adds ?_ ?_; (with_reducible first | exact v8_0 | exact v8_1 | exact v8_2 | exact v8_3 | exact v8_4 | exact v8_5 | exact v8_6 | exact v8_7)) | (refine sf_u (by omega) ?_)))); done)) (by first | (with_reducible first | assumption | exact m20 (by assumption) (by assumption) | exact ga20 (by assumption) (by assumption) | exact w2 (by assumption) | exact w2 (min4 (by assumption)) | exact w2 (s46 (by assumption)) | exact min4 (by assumption) | exact s46 (by assumption) | exact min11 (by assumption) (by assumption)) | (unfold vp_in; decide) | ((with_reducible (repeat (first | assumption | (refine sf_lays ?_ ?_ ?_; (with_reducible first | assumption | exact m20 (by assumption) (by assumption) | exact ga20 (by assumption) (by assumption)); (with_reducible first | exact v11_0 | exact v11_1 | exact v11_6 | exact v11_7 | exact v11_8 | exact v11_9 | exact v11_10 | exact w2 (by assumption) | exact w2 (min4 (by assumption)))) | (refine sf_adds ?_ ?_; (with_reducible first | exact v8_0 | exact v8_1 | exact v8_2 | exact v8_3 | exact v8_4 | exact v8_5 | exact v8_6 | exact v8_7)) | (refine sf_u (by omega) ?_)))); done))) (cwV 2 hts gX6_canMove_X6_of rfl rfl rfl (by decide +kernel) ⟨Nat.le_of_ble_eq_true rfl, Nat.le_of_ble_eq_true rfl⟩) hP hK hX hS 0 5 md_0 rfl rfl hl.1 rfl (Nat.le_of_ble_eq_true rfl) dX6_canMove_4 ⟨Nat.zero_le _, Nat.zero_le _⟩ ?_
  refine lv_iconst (v := -1) hx hb dX6_canMove_7 (by decide) ?_
  refine lv_icmp_eq (tgt := 33) hx hb dX6_canMove_8 (by decide) (fun c8 => ?_) (fun c8 => ?_)
  · refine lv_iconst (v := 0) hx hb dX6_canMove_33 (by decide) ?_
    exact ro_zret hx hb hr (rfl) (Eq.trans (if_pos c8) (rfl)) dX6_canMove_34 hlocks
  · refine lv_aload_n hx hb dX6_canMove_11 rfl (lv_at hl 0 rfl) ?_
    refine lv_iload_n hx hb dX6_canMove_12 rfl (lv_at hl 2 rfl) ?_
    refine roV CF (c_X6_goodAt l D cI cC cW t _ _ _ _ (by first | (with_reducible first | assumption | exact m20 (by assumption) (by assumption) | exact ga20 (by assumption) (by assumption) | exact w2 (by assumption) | exact w2 (min4 (by assumption)) | exact w2 (s46 (by assumption)) | exact min4 (by assumption) | exact s46 (by assumption) | exact min11 (by assumption) (by assumption)) | (unfold vp_in; decide) | ((with_reducible (repeat (first | assumption | (refine sf_lays ?_ ?_ ?_; (with_reducible first | assumption | exact m20 (by assumption) (by assumption) | exact ga20 (by assumption) (by assumption)); (with_reducible first | exact v11_0 | exact v11_1 | exact v11_6 | exact v11_7 | exact v11_8 | exact v11_9 | exact v11_10 | exact w2 (by assumption) | exact w2 (min4 (by assumption)))) | (refine sf_adds ?_ ?_; (with_reducible first | exact v8_0 | exact v8_1 | exact v8_2 | exact v8_3 | exact v8_4 | exact v8_5 | exact v8_6 | exact v8_7)) | (refine sf_u (by omega) ?_)))); done))) (cwV 1 hts gX6_canMove_X6_goodAt rfl rfl rfl (by decide +kernel) ⟨Nat.le_of_ble_eq_true rfl, Nat.le_of_ble_eq_true rfl⟩) hP hK hX hS 0 5 md_0 rfl rfl hl.1 rfl (Nat.le_of_ble_eq_true rfl) dX6_canMove_13 ⟨Nat.zero_le _, Nat.zero_le _⟩ ?_
    refine lv_iconst (v := -1) hx hb dX6_canMove_16 (by decide) ?_
    refine lv_icmp_ne (tgt := 33) hx hb dX6_canMove_17 (by decide) (fun c17 => ?_) (fun c17 => ?_)
    · refine lv_iconst (v := 0) hx hb dX6_canMove_33 (by decide) ?_
      exact ro_zret hx hb hr (rfl) (Eq.trans (if_neg c8) (Eq.trans (if_neg c17) (rfl))) dX6_canMove_34 hlocks
    · refine lv_aload_n hx hb dX6_canMove_20 rfl (lv_at hl 0 rfl) ?_
      refine lv_iload_n hx hb dX6_canMove_21 rfl (lv_at hl 1 rfl) ?_
      refine lv_iload_n hx hb dX6_canMove_22 rfl (lv_at hl 2 rfl) ?_
      refine roV CF (c_X6_mayBe l D cI cC cW t _ _ _ _ _ (by first | (with_reducible first | assumption | exact m20 (by assumption) (by assumption) | exact ga20 (by assumption) (by assumption) | exact w2 (by assumption) | exact w2 (min4 (by assumption)) | exact w2 (s46 (by assumption)) | exact min4 (by assumption) | exact s46 (by assumption) | exact min11 (by assumption) (by assumption)) | (unfold vp_in; decide) | ((with_reducible (repeat (first | assumption | (refine sf_lays ?_ ?_ ?_; (with_reducible first | assumption | exact m20 (by assumption) (by assumption) | exact ga20 (by assumption) (by assumption)); (with_reducible first | exact v11_0 | exact v11_1 | exact v11_6 | exact v11_7 | exact v11_8 | exact v11_9 | exact v11_10 | exact w2 (by assumption) | exact w2 (min4 (by assumption)))) | (refine sf_adds ?_ ?_; (with_reducible first | exact v8_0 | exact v8_1 | exact v8_2 | exact v8_3 | exact v8_4 | exact v8_5 | exact v8_6 | exact v8_7)) | (refine sf_u (by omega) ?_)))); done))) (cwV 2 hts gX6_canMove_X6_mayBe rfl rfl rfl (by decide +kernel) ⟨Nat.le_of_ble_eq_true rfl, Nat.le_of_ble_eq_true rfl⟩) hP hK hX hS 0 5 md_0 rfl rfl hl.1 rfl (Nat.le_of_ble_eq_true rfl) dX6_canMove_23 ⟨Nat.zero_le _, Nat.zero_le _⟩ ?_
      refine lv_if_eq (tgt := 33) hx hb dX6_canMove_26 (by decide) (fun c26 => ?_) (fun c26 => ?_)
      · refine lv_iconst (v := 0) hx hb dX6_canMove_33 (by decide) ?_
        exact ro_zret hx hb hr (rfl) (Eq.trans (if_neg c8) (Eq.trans (if_pos c17) (Eq.trans (if_pos c26) (rfl)))) dX6_canMove_34 hlocks
      · refine lv_iconst (v := 1) hx hb dX6_canMove_29 (by decide) ?_
        refine lv_goto (tgt := 34) hx hb dX6_canMove_30 (by decide) ?_
        exact ro_zret hx hb hr (rfl) (Eq.trans (if_neg c8) (Eq.trans (if_pos c17) (Eq.trans (if_neg c26) (rfl)))) dX6_canMove_34 hlocks
theorem zb_X6_canMove {N : Nat → Int32} {Z : Nat → Nat → Int32} {x1 x2 : Int32} : narrow .boolean (.int (sp_X6_canMove N Z x1 x2)) = .int (sp_X6_canMove N Z x1 x2) := by
  unfold sp_X6_canMove
  (repeat' split) <;> first | (with_reducible exact zb_X6_mayBe) | rfl

def sp_X6_canExchange (N : Nat → Int32) (Z : Nat → Nat → Int32) (x1 x2 : Int32) : Int32 :=
  if x1 = x2 then ((0 : Int32)) else (if (sp_X6_of N Z x1 (6 : Int32)) = (-1 : Int32) then ((0 : Int32)) else (if (sp_X6_of N Z x2 (6 : Int32)) = (-1 : Int32) then ((0 : Int32)) else (if (sp_X6_mayBe N Z x1 (sp_X6_of N Z x2 (6 : Int32))) = 0 then ((0 : Int32)) else (if (sp_X6_mayBe N Z x2 (sp_X6_of N Z x1 (6 : Int32))) = 0 then ((0 : Int32)) else ((1 : Int32))))))
set_option maxHeartbeats 4000000 in
set_option maxRecDepth 100000 in
theorem c_X6_canExchange (l : Launch) (D : va_G) (cI cC cW : ClassId) (t : Nat → Nat) (a : Nat → Nat) (N : Nat → Int32) (Z : Nat → Nat → Int32) (x1 x2 : Int32) (h1 : vp_in x1 20) (h2 : vp_in x2 20) : Met l yX6_canExchange wsX6_canExchange ({ frames := 2, cells := 0, slots := 0, locals := 44 }) (va_Pc [.ref (a 0), .int x1, .int x2] (roP D (tyL cI cC cW) (md cI a N Z) t)) (vp_Si (fun r => r = sp_X6_canExchange N Z x1 x2)) 0 0 (fun _ => False) := by
  refine Met.ofW (cc := cX6_canExchange) (maxL := 3) (ret := (some .boolean)) (by decide) rfl ?_
  intro p e s m args below meth c s₁ B hml hv
  obtain ⟨rfl, hP, hK, hX⟩ := hv
  have hx := B.exec
  have hb := B.bytes
  have hr := B.returns
  have hts := atoms_spec (ws := wsX6_canExchange) B.pre
  have hown : s.vm.findClass RX6 = some m.cls := findClass_of_methodNamed B.named
  have hlocks := B.notSynchronized
  have hS : va_S (fun _ => False) s.heap s.heap [] := va_S.rf
  have CF : CallFix p m c cX6_canExchange 3 s [.ref (a 0), .int x1, .int x2].toArray wsX6_canExchange RX6 := ⟨hx, hb, hml, hown, hts⟩
  have hl := lv_entry ([.ref (a 0), .int x1, .int x2]) (n := 3) (Nat.le_of_ble_eq_true rfl)
  rw [lg_entry_eq]
  generalize (lg_sl ([.ref (a 0), .int x1, .int x2]) ++ List.replicate (3 - (lg_sl ([.ref (a 0), .int x1, .int x2])).length) Slot.unset).toArray = ls at hl ⊢
  have hl : lv_has ls 3 [(0, .ref (a 0)), (1, .int x1), (2, .int x2)] := hl
  refine lv_iload_n hx hb dX6_canExchange_0 rfl (lv_at hl 1 rfl) ?_
  refine lv_iload_n hx hb dX6_canExchange_1 rfl (lv_at hl 2 rfl) ?_
  refine lv_icmp_eq (tgt := 61) hx hb dX6_canExchange_2 (by decide) (fun c2 => ?_) (fun c2 => ?_)
  · refine lv_iconst (v := 0) hx hb dX6_canExchange_61 (by decide) ?_
    exact ro_zret hx hb hr (rfl) (Eq.trans (if_pos c2) (rfl)) dX6_canExchange_62 hlocks
  · refine lv_aload_n hx hb dX6_canExchange_5 rfl (lv_at hl 0 rfl) ?_
    refine lv_iload_n hx hb dX6_canExchange_6 rfl (lv_at hl 1 rfl) ?_
    refine lv_bipush (v := 6) hx hb dX6_canExchange_7 (by decide) ?_
    refine roV CF (c_X6_of l D cI cC cW t _ _ _ _ _ (by first | (with_reducible first | assumption | exact m20 (by assumption) (by assumption) | exact ga20 (by assumption) (by assumption) | exact w2 (by assumption) | exact w2 (min4 (by assumption)) | exact w2 (s46 (by assumption)) | exact min4 (by assumption) | exact s46 (by assumption) | exact min11 (by assumption) (by assumption)) | (unfold vp_in; decide) | ((with_reducible (repeat (first | assumption | (refine sf_lays ?_ ?_ ?_; (with_reducible first | assumption | exact m20 (by assumption) (by assumption) | exact ga20 (by assumption) (by assumption)); (with_reducible first | exact v11_0 | exact v11_1 | exact v11_6 | exact v11_7 | exact v11_8 | exact v11_9 | exact v11_10 | exact w2 (by assumption) | exact w2 (min4 (by assumption)))) | (refine sf_adds ?_ ?_; (with_reducible first | exact v8_0 | exact v8_1 | exact v8_2 | exact v8_3 | exact v8_4 | exact v8_5 | exact v8_6 | exact v8_7)) | (refine sf_u (by omega) ?_)))); done)) (by first | (with_reducible first | assumption | exact m20 (by assumption) (by assumption) | exact ga20 (by assumption) (by assumption) | exact w2 (by assumption) | exact w2 (min4 (by assumption)) | exact w2 (s46 (by assumption)) | exact min4 (by assumption) | exact s46 (by assumption) | exact min11 (by assumption) (by assumption)) | (unfold vp_in; decide) | ((with_reducible (repeat (first | assumption | (refine sf_lays ?_ ?_ ?_; (with_reducible first | assumption | exact m20 (by assumption) (by assumption) | exact ga20 (by assumption) (by assumption)); (with_reducible first | exact v11_0 | exact v11_1 | exact v11_6 | exact v11_7 | exact v11_8 | exact v11_9 | exact v11_10 | exact w2 (by assumption) | exact w2 (min4 (by assumption)))) | (refine sf_adds ?_ ?_; (with_reducible first | exact v8_0 | exact v8_1 | exact v8_2 | exact v8_3 | exact v8_4 | exact v8_5 | exact v8_6 | exact v8_7)) | (refine sf_u (by omega) ?_)))); done))) (cwV 2 hts gX6_canExchange_X6_of rfl rfl rfl (by decide +kernel) ⟨Nat.le_of_ble_eq_true rfl, Nat.le_of_ble_eq_true rfl⟩) hP hK hX hS 0 5 md_0 rfl rfl hl.1 rfl (Nat.le_of_ble_eq_true rfl) dX6_canExchange_9 ⟨Nat.zero_le _, Nat.zero_le _⟩ ?_
    refine lv_iconst (v := -1) hx hb dX6_canExchange_12 (by decide) ?_
    refine lv_icmp_eq (tgt := 61) hx hb dX6_canExchange_13 (by decide) (fun c13 => ?_) (fun c13 => ?_)
    · refine lv_iconst (v := 0) hx hb dX6_canExchange_61 (by decide) ?_
      exact ro_zret hx hb hr (rfl) (Eq.trans (if_neg c2) (Eq.trans (if_pos c13) (rfl))) dX6_canExchange_62 hlocks
    · refine lv_aload_n hx hb dX6_canExchange_16 rfl (lv_at hl 0 rfl) ?_
      refine lv_iload_n hx hb dX6_canExchange_17 rfl (lv_at hl 2 rfl) ?_
      refine lv_bipush (v := 6) hx hb dX6_canExchange_18 (by decide) ?_
      refine roV CF (c_X6_of l D cI cC cW t _ _ _ _ _ (by first | (with_reducible first | assumption | exact m20 (by assumption) (by assumption) | exact ga20 (by assumption) (by assumption) | exact w2 (by assumption) | exact w2 (min4 (by assumption)) | exact w2 (s46 (by assumption)) | exact min4 (by assumption) | exact s46 (by assumption) | exact min11 (by assumption) (by assumption)) | (unfold vp_in; decide) | ((with_reducible (repeat (first | assumption | (refine sf_lays ?_ ?_ ?_; (with_reducible first | assumption | exact m20 (by assumption) (by assumption) | exact ga20 (by assumption) (by assumption)); (with_reducible first | exact v11_0 | exact v11_1 | exact v11_6 | exact v11_7 | exact v11_8 | exact v11_9 | exact v11_10 | exact w2 (by assumption) | exact w2 (min4 (by assumption)))) | (refine sf_adds ?_ ?_; (with_reducible first | exact v8_0 | exact v8_1 | exact v8_2 | exact v8_3 | exact v8_4 | exact v8_5 | exact v8_6 | exact v8_7)) | (refine sf_u (by omega) ?_)))); done)) (by first | (with_reducible first | assumption | exact m20 (by assumption) (by assumption) | exact ga20 (by assumption) (by assumption) | exact w2 (by assumption) | exact w2 (min4 (by assumption)) | exact w2 (s46 (by assumption)) | exact min4 (by assumption) | exact s46 (by assumption) | exact min11 (by assumption) (by assumption)) | (unfold vp_in; decide) | ((with_reducible (repeat (first | assumption | (refine sf_lays ?_ ?_ ?_; (with_reducible first | assumption | exact m20 (by assumption) (by assumption) | exact ga20 (by assumption) (by assumption)); (with_reducible first | exact v11_0 | exact v11_1 | exact v11_6 | exact v11_7 | exact v11_8 | exact v11_9 | exact v11_10 | exact w2 (by assumption) | exact w2 (min4 (by assumption)))) | (refine sf_adds ?_ ?_; (with_reducible first | exact v8_0 | exact v8_1 | exact v8_2 | exact v8_3 | exact v8_4 | exact v8_5 | exact v8_6 | exact v8_7)) | (refine sf_u (by omega) ?_)))); done))) (cwV 2 hts gX6_canExchange_X6_of rfl rfl rfl (by decide +kernel) ⟨Nat.le_of_ble_eq_true rfl, Nat.le_of_ble_eq_true rfl⟩) hP hK hX hS 0 5 md_0 rfl rfl hl.1 rfl (Nat.le_of_ble_eq_true rfl) dX6_canExchange_20 ⟨Nat.zero_le _, Nat.zero_le _⟩ ?_
      refine lv_iconst (v := -1) hx hb dX6_canExchange_23 (by decide) ?_
      refine lv_icmp_eq (tgt := 61) hx hb dX6_canExchange_24 (by decide) (fun c24 => ?_) (fun c24 => ?_)
      · refine lv_iconst (v := 0) hx hb dX6_canExchange_61 (by decide) ?_
        exact ro_zret hx hb hr (rfl) (Eq.trans (if_neg c2) (Eq.trans (if_neg c13) (Eq.trans (if_pos c24) (rfl)))) dX6_canExchange_62 hlocks
      · refine lv_aload_n hx hb dX6_canExchange_27 rfl (lv_at hl 0 rfl) ?_
        refine lv_iload_n hx hb dX6_canExchange_28 rfl (lv_at hl 1 rfl) ?_
        refine lv_aload_n hx hb dX6_canExchange_29 rfl (lv_at hl 0 rfl) ?_
        refine lv_iload_n hx hb dX6_canExchange_30 rfl (lv_at hl 2 rfl) ?_
        refine lv_bipush (v := 6) hx hb dX6_canExchange_31 (by decide) ?_
        refine roV CF (c_X6_of l D cI cC cW t _ _ _ _ _ (by first | (with_reducible first | assumption | exact m20 (by assumption) (by assumption) | exact ga20 (by assumption) (by assumption) | exact w2 (by assumption) | exact w2 (min4 (by assumption)) | exact w2 (s46 (by assumption)) | exact min4 (by assumption) | exact s46 (by assumption) | exact min11 (by assumption) (by assumption)) | (unfold vp_in; decide) | ((with_reducible (repeat (first | assumption | (refine sf_lays ?_ ?_ ?_; (with_reducible first | assumption | exact m20 (by assumption) (by assumption) | exact ga20 (by assumption) (by assumption)); (with_reducible first | exact v11_0 | exact v11_1 | exact v11_6 | exact v11_7 | exact v11_8 | exact v11_9 | exact v11_10 | exact w2 (by assumption) | exact w2 (min4 (by assumption)))) | (refine sf_adds ?_ ?_; (with_reducible first | exact v8_0 | exact v8_1 | exact v8_2 | exact v8_3 | exact v8_4 | exact v8_5 | exact v8_6 | exact v8_7)) | (refine sf_u (by omega) ?_)))); done)) (by first | (with_reducible first | assumption | exact m20 (by assumption) (by assumption) | exact ga20 (by assumption) (by assumption) | exact w2 (by assumption) | exact w2 (min4 (by assumption)) | exact w2 (s46 (by assumption)) | exact min4 (by assumption) | exact s46 (by assumption) | exact min11 (by assumption) (by assumption)) | (unfold vp_in; decide) | ((with_reducible (repeat (first | assumption | (refine sf_lays ?_ ?_ ?_; (with_reducible first | assumption | exact m20 (by assumption) (by assumption) | exact ga20 (by assumption) (by assumption)); (with_reducible first | exact v11_0 | exact v11_1 | exact v11_6 | exact v11_7 | exact v11_8 | exact v11_9 | exact v11_10 | exact w2 (by assumption) | exact w2 (min4 (by assumption)))) | (refine sf_adds ?_ ?_; (with_reducible first | exact v8_0 | exact v8_1 | exact v8_2 | exact v8_3 | exact v8_4 | exact v8_5 | exact v8_6 | exact v8_7)) | (refine sf_u (by omega) ?_)))); done))) (cwV 2 hts gX6_canExchange_X6_of rfl rfl rfl (by decide +kernel) ⟨Nat.le_of_ble_eq_true rfl, Nat.le_of_ble_eq_true rfl⟩) hP hK hX hS 0 5 md_0 rfl rfl hl.1 rfl (Nat.le_of_ble_eq_true rfl) dX6_canExchange_33 ⟨Nat.zero_le _, Nat.zero_le _⟩ ?_
        refine roV CF (c_X6_mayBe l D cI cC cW t _ _ _ _ _ (by first | (with_reducible first | assumption | exact m20 (by assumption) (by assumption) | exact ga20 (by assumption) (by assumption) | exact w2 (by assumption) | exact w2 (min4 (by assumption)) | exact w2 (s46 (by assumption)) | exact min4 (by assumption) | exact s46 (by assumption) | exact min11 (by assumption) (by assumption)) | (unfold vp_in; decide) | ((with_reducible (repeat (first | assumption | (refine sf_lays ?_ ?_ ?_; (with_reducible first | assumption | exact m20 (by assumption) (by assumption) | exact ga20 (by assumption) (by assumption)); (with_reducible first | exact v11_0 | exact v11_1 | exact v11_6 | exact v11_7 | exact v11_8 | exact v11_9 | exact v11_10 | exact w2 (by assumption) | exact w2 (min4 (by assumption)))) | (refine sf_adds ?_ ?_; (with_reducible first | exact v8_0 | exact v8_1 | exact v8_2 | exact v8_3 | exact v8_4 | exact v8_5 | exact v8_6 | exact v8_7)) | (refine sf_u (by omega) ?_)))); done))) (cwV 2 hts gX6_canExchange_X6_mayBe rfl rfl rfl (by decide +kernel) ⟨Nat.le_of_ble_eq_true rfl, Nat.le_of_ble_eq_true rfl⟩) hP hK hX hS 0 5 md_0 rfl rfl hl.1 rfl (Nat.le_of_ble_eq_true rfl) dX6_canExchange_36 ⟨Nat.zero_le _, Nat.zero_le _⟩ ?_
        refine lv_if_eq (tgt := 61) hx hb dX6_canExchange_39 (by decide) (fun c39 => ?_) (fun c39 => ?_)
        · refine lv_iconst (v := 0) hx hb dX6_canExchange_61 (by decide) ?_
          exact ro_zret hx hb hr (rfl) (Eq.trans (if_neg c2) (Eq.trans (if_neg c13) (Eq.trans (if_neg c24) (Eq.trans (if_pos c39) (rfl))))) dX6_canExchange_62 hlocks
        · refine lv_aload_n hx hb dX6_canExchange_42 rfl (lv_at hl 0 rfl) ?_
          refine lv_iload_n hx hb dX6_canExchange_43 rfl (lv_at hl 2 rfl) ?_
          refine lv_aload_n hx hb dX6_canExchange_44 rfl (lv_at hl 0 rfl) ?_
          refine lv_iload_n hx hb dX6_canExchange_45 rfl (lv_at hl 1 rfl) ?_
          refine lv_bipush (v := 6) hx hb dX6_canExchange_46 (by decide) ?_
          refine roV CF (c_X6_of l D cI cC cW t _ _ _ _ _ (by first | (with_reducible first | assumption | exact m20 (by assumption) (by assumption) | exact ga20 (by assumption) (by assumption) | exact w2 (by assumption) | exact w2 (min4 (by assumption)) | exact w2 (s46 (by assumption)) | exact min4 (by assumption) | exact s46 (by assumption) | exact min11 (by assumption) (by assumption)) | (unfold vp_in; decide) | ((with_reducible (repeat (first | assumption | (refine sf_lays ?_ ?_ ?_; (with_reducible first | assumption | exact m20 (by assumption) (by assumption) | exact ga20 (by assumption) (by assumption)); (with_reducible first | exact v11_0 | exact v11_1 | exact v11_6 | exact v11_7 | exact v11_8 | exact v11_9 | exact v11_10 | exact w2 (by assumption) | exact w2 (min4 (by assumption)))) | (refine sf_adds ?_ ?_; (with_reducible first | exact v8_0 | exact v8_1 | exact v8_2 | exact v8_3 | exact v8_4 | exact v8_5 | exact v8_6 | exact v8_7)) | (refine sf_u (by omega) ?_)))); done)) (by first | (with_reducible first | assumption | exact m20 (by assumption) (by assumption) | exact ga20 (by assumption) (by assumption) | exact w2 (by assumption) | exact w2 (min4 (by assumption)) | exact w2 (s46 (by assumption)) | exact min4 (by assumption) | exact s46 (by assumption) | exact min11 (by assumption) (by assumption)) | (unfold vp_in; decide) | ((with_reducible (repeat (first | assumption | (refine sf_lays ?_ ?_ ?_; (with_reducible first | assumption | exact m20 (by assumption) (by assumption) | exact ga20 (by assumption) (by assumption)); (with_reducible first | exact v11_0 | exact v11_1 | exact v11_6 | exact v11_7 | exact v11_8 | exact v11_9 | exact v11_10 | exact w2 (by assumption) | exact w2 (min4 (by assumption)))) | (refine sf_adds ?_ ?_; (with_reducible first | exact v8_0 | exact v8_1 | exact v8_2 | exact v8_3 | exact v8_4 | exact v8_5 | exact v8_6 | exact v8_7)) | (refine sf_u (by omega) ?_)))); done))) (cwV 2 hts gX6_canExchange_X6_of rfl rfl rfl (by decide +kernel) ⟨Nat.le_of_ble_eq_true rfl, Nat.le_of_ble_eq_true rfl⟩) hP hK hX hS 0 5 md_0 rfl rfl hl.1 rfl (Nat.le_of_ble_eq_true rfl) dX6_canExchange_48 ⟨Nat.zero_le _, Nat.zero_le _⟩ ?_
          refine roV CF (c_X6_mayBe l D cI cC cW t _ _ _ _ _ (by first | (with_reducible first | assumption | exact m20 (by assumption) (by assumption) | exact ga20 (by assumption) (by assumption) | exact w2 (by assumption) | exact w2 (min4 (by assumption)) | exact w2 (s46 (by assumption)) | exact min4 (by assumption) | exact s46 (by assumption) | exact min11 (by assumption) (by assumption)) | (unfold vp_in; decide) | ((with_reducible (repeat (first | assumption | (refine sf_lays ?_ ?_ ?_; (with_reducible first | assumption | exact m20 (by assumption) (by assumption) | exact ga20 (by assumption) (by assumption)); (with_reducible first | exact v11_0 | exact v11_1 | exact v11_6 | exact v11_7 | exact v11_8 | exact v11_9 | exact v11_10 | exact w2 (by assumption) | exact w2 (min4 (by assumption)))) | (refine sf_adds ?_ ?_; (with_reducible first | exact v8_0 | exact v8_1 | exact v8_2 | exact v8_3 | exact v8_4 | exact v8_5 | exact v8_6 | exact v8_7)) | (refine sf_u (by omega) ?_)))); done))) (cwV 2 hts gX6_canExchange_X6_mayBe rfl rfl rfl (by decide +kernel) ⟨Nat.le_of_ble_eq_true rfl, Nat.le_of_ble_eq_true rfl⟩) hP hK hX hS 0 5 md_0 rfl rfl hl.1 rfl (Nat.le_of_ble_eq_true rfl) dX6_canExchange_51 ⟨Nat.zero_le _, Nat.zero_le _⟩ ?_
          refine lv_if_eq (tgt := 61) hx hb dX6_canExchange_54 (by decide) (fun c54 => ?_) (fun c54 => ?_)
          · refine lv_iconst (v := 0) hx hb dX6_canExchange_61 (by decide) ?_
            exact ro_zret hx hb hr (rfl) (Eq.trans (if_neg c2) (Eq.trans (if_neg c13) (Eq.trans (if_neg c24) (Eq.trans (if_neg c39) (Eq.trans (if_pos c54) (rfl)))))) dX6_canExchange_62 hlocks
          · refine lv_iconst (v := 1) hx hb dX6_canExchange_57 (by decide) ?_
            refine lv_goto (tgt := 62) hx hb dX6_canExchange_58 (by decide) ?_
            exact ro_zret hx hb hr (rfl) (Eq.trans (if_neg c2) (Eq.trans (if_neg c13) (Eq.trans (if_neg c24) (Eq.trans (if_neg c39) (Eq.trans (if_neg c54) (rfl)))))) dX6_canExchange_62 hlocks
theorem zb_X6_canExchange {N : Nat → Int32} {Z : Nat → Nat → Int32} {x1 x2 : Int32} : narrow .boolean (.int (sp_X6_canExchange N Z x1 x2)) = .int (sp_X6_canExchange N Z x1 x2) := by
  unfold sp_X6_canExchange
  (repeat' split) <;> first | (with_reducible exact zb_X6_mayBe) | rfl

def sp_X6_canGo (N : Nat → Int32) (Z : Nat → Nat → Int32) (x1 x2 : Int32) : Int32 :=
  if (sp_X6_goodAt N Z x2) = (-1 : Int32) then ((sp_X6_canMove N Z x1 x2)) else ((sp_X6_canExchange N Z x1 (sp_X6_goodAt N Z x2)))
set_option maxHeartbeats 4000000 in
set_option maxRecDepth 100000 in
theorem c_X6_canGo (l : Launch) (D : va_G) (cI cC cW : ClassId) (t : Nat → Nat) (a : Nat → Nat) (N : Nat → Int32) (Z : Nat → Nat → Int32) (x1 x2 : Int32) (hsf : sfN N) (h1 : vp_in x1 20) : Met l yX6_canGo wsX6_canGo ({ frames := 3, cells := 0, slots := 0, locals := 66 }) (va_Pc [.ref (a 0), .int x1, .int x2] (roP D (tyL cI cC cW) (md cI a N Z) t)) (vp_Si (fun r => r = sp_X6_canGo N Z x1 x2)) 0 0 (fun _ => False) := by
  refine Met.ofW (cc := cX6_canGo) (maxL := 4) (ret := (some .boolean)) (by decide) rfl ?_
  intro p e s m args below meth c s₁ B hml hv
  obtain ⟨rfl, hP, hK, hX⟩ := hv
  have hx := B.exec
  have hb := B.bytes
  have hr := B.returns
  have hts := atoms_spec (ws := wsX6_canGo) B.pre
  have hown : s.vm.findClass RX6 = some m.cls := findClass_of_methodNamed B.named
  have hlocks := B.notSynchronized
  have hS : va_S (fun _ => False) s.heap s.heap [] := va_S.rf
  have CF : CallFix p m c cX6_canGo 4 s [.ref (a 0), .int x1, .int x2].toArray wsX6_canGo RX6 := ⟨hx, hb, hml, hown, hts⟩
  have hl := lv_entry ([.ref (a 0), .int x1, .int x2]) (n := 4) (Nat.le_of_ble_eq_true rfl)
  rw [lg_entry_eq]
  generalize (lg_sl ([.ref (a 0), .int x1, .int x2]) ++ List.replicate (4 - (lg_sl ([.ref (a 0), .int x1, .int x2])).length) Slot.unset).toArray = ls at hl ⊢
  have hl : lv_has ls 4 [(0, .ref (a 0)), (1, .int x1), (2, .int x2)] := hl
  refine lv_aload_n hx hb dX6_canGo_0 rfl (lv_at hl 0 rfl) ?_
  refine lv_iload_n hx hb dX6_canGo_1 rfl (lv_at hl 2 rfl) ?_
  refine roV CF (c_X6_goodAt l D cI cC cW t _ _ _ _ (by first | (with_reducible first | assumption | exact m20 (by assumption) (by assumption) | exact ga20 (by assumption) (by assumption) | exact w2 (by assumption) | exact w2 (min4 (by assumption)) | exact w2 (s46 (by assumption)) | exact min4 (by assumption) | exact s46 (by assumption) | exact min11 (by assumption) (by assumption)) | (unfold vp_in; decide) | ((with_reducible (repeat (first | assumption | (refine sf_lays ?_ ?_ ?_; (with_reducible first | assumption | exact m20 (by assumption) (by assumption) | exact ga20 (by assumption) (by assumption)); (with_reducible first | exact v11_0 | exact v11_1 | exact v11_6 | exact v11_7 | exact v11_8 | exact v11_9 | exact v11_10 | exact w2 (by assumption) | exact w2 (min4 (by assumption)))) | (refine sf_adds ?_ ?_; (with_reducible first | exact v8_0 | exact v8_1 | exact v8_2 | exact v8_3 | exact v8_4 | exact v8_5 | exact v8_6 | exact v8_7)) | (refine sf_u (by omega) ?_)))); done))) (cwV 1 hts gX6_canGo_X6_goodAt rfl rfl rfl (by decide +kernel) ⟨Nat.le_of_ble_eq_true rfl, Nat.le_of_ble_eq_true rfl⟩) hP hK hX hS 0 5 md_0 rfl rfl hl.1 rfl (Nat.le_of_ble_eq_true rfl) dX6_canGo_2 ⟨Nat.zero_le _, Nat.zero_le _⟩ ?_
  refine lv_istore_n (lv' := [(3, .int _), (0, .ref _), (1, .int _), (2, .int _)]) hx hb dX6_canGo_5 rfl hl (by decide) rfl (fun ls hl => ?_)
  refine lv_iload_n hx hb dX6_canGo_6 rfl (lv_at hl 0 rfl) ?_
  refine lv_iconst (v := -1) hx hb dX6_canGo_7 (by decide) ?_
  refine lv_icmp_ne (tgt := 20) hx hb dX6_canGo_8 (by decide) (fun c8 => ?_) (fun c8 => ?_)
  · refine lv_aload_n hx hb dX6_canGo_20 rfl (lv_at hl 1 rfl) ?_
    refine lv_iload_n hx hb dX6_canGo_21 rfl (lv_at hl 2 rfl) ?_
    refine lv_iload_n hx hb dX6_canGo_22 rfl (lv_at hl 0 rfl) ?_
    refine roV CF (c_X6_canExchange l D cI cC cW t _ _ _ _ _ (by first | (with_reducible first | assumption | exact m20 (by assumption) (by assumption) | exact ga20 (by assumption) (by assumption) | exact w2 (by assumption) | exact w2 (min4 (by assumption)) | exact w2 (s46 (by assumption)) | exact min4 (by assumption) | exact s46 (by assumption) | exact min11 (by assumption) (by assumption)) | (unfold vp_in; decide) | ((with_reducible (repeat (first | assumption | (refine sf_lays ?_ ?_ ?_; (with_reducible first | assumption | exact m20 (by assumption) (by assumption) | exact ga20 (by assumption) (by assumption)); (with_reducible first | exact v11_0 | exact v11_1 | exact v11_6 | exact v11_7 | exact v11_8 | exact v11_9 | exact v11_10 | exact w2 (by assumption) | exact w2 (min4 (by assumption)))) | (refine sf_adds ?_ ?_; (with_reducible first | exact v8_0 | exact v8_1 | exact v8_2 | exact v8_3 | exact v8_4 | exact v8_5 | exact v8_6 | exact v8_7)) | (refine sf_u (by omega) ?_)))); done)) (by first | (with_reducible first | assumption | exact m20 (by assumption) (by assumption) | exact ga20 (by assumption) (by assumption) | exact w2 (by assumption) | exact w2 (min4 (by assumption)) | exact w2 (s46 (by assumption)) | exact min4 (by assumption) | exact s46 (by assumption) | exact min11 (by assumption) (by assumption)) | (unfold vp_in; decide) | ((with_reducible (repeat (first | assumption | (refine sf_lays ?_ ?_ ?_; (with_reducible first | assumption | exact m20 (by assumption) (by assumption) | exact ga20 (by assumption) (by assumption)); (with_reducible first | exact v11_0 | exact v11_1 | exact v11_6 | exact v11_7 | exact v11_8 | exact v11_9 | exact v11_10 | exact w2 (by assumption) | exact w2 (min4 (by assumption)))) | (refine sf_adds ?_ ?_; (with_reducible first | exact v8_0 | exact v8_1 | exact v8_2 | exact v8_3 | exact v8_4 | exact v8_5 | exact v8_6 | exact v8_7)) | (refine sf_u (by omega) ?_)))); done))) (cwV 2 hts gX6_canGo_X6_canExchange rfl rfl rfl (by decide +kernel) ⟨Nat.le_of_ble_eq_true rfl, Nat.le_of_ble_eq_true rfl⟩) hP hK hX hS 0 5 md_0 rfl rfl hl.1 rfl (Nat.le_of_ble_eq_true rfl) dX6_canGo_23 ⟨Nat.zero_le _, Nat.zero_le _⟩ ?_
    exact ro_zret hx hb hr (zb_X6_canExchange) (Eq.trans (if_neg c8) (rfl)) dX6_canGo_26 hlocks
  · refine lv_aload_n hx hb dX6_canGo_11 rfl (lv_at hl 1 rfl) ?_
    refine lv_iload_n hx hb dX6_canGo_12 rfl (lv_at hl 2 rfl) ?_
    refine lv_iload_n hx hb dX6_canGo_13 rfl (lv_at hl 3 rfl) ?_
    refine roV CF (c_X6_canMove l D cI cC cW t _ _ _ _ _ (by first | (with_reducible first | assumption | exact m20 (by assumption) (by assumption) | exact ga20 (by assumption) (by assumption) | exact w2 (by assumption) | exact w2 (min4 (by assumption)) | exact w2 (s46 (by assumption)) | exact min4 (by assumption) | exact s46 (by assumption) | exact min11 (by assumption) (by assumption)) | (unfold vp_in; decide) | ((with_reducible (repeat (first | assumption | (refine sf_lays ?_ ?_ ?_; (with_reducible first | assumption | exact m20 (by assumption) (by assumption) | exact ga20 (by assumption) (by assumption)); (with_reducible first | exact v11_0 | exact v11_1 | exact v11_6 | exact v11_7 | exact v11_8 | exact v11_9 | exact v11_10 | exact w2 (by assumption) | exact w2 (min4 (by assumption)))) | (refine sf_adds ?_ ?_; (with_reducible first | exact v8_0 | exact v8_1 | exact v8_2 | exact v8_3 | exact v8_4 | exact v8_5 | exact v8_6 | exact v8_7)) | (refine sf_u (by omega) ?_)))); done)) (by first | (with_reducible first | assumption | exact m20 (by assumption) (by assumption) | exact ga20 (by assumption) (by assumption) | exact w2 (by assumption) | exact w2 (min4 (by assumption)) | exact w2 (s46 (by assumption)) | exact min4 (by assumption) | exact s46 (by assumption) | exact min11 (by assumption) (by assumption)) | (unfold vp_in; decide) | ((with_reducible (repeat (first | assumption | (refine sf_lays ?_ ?_ ?_; (with_reducible first | assumption | exact m20 (by assumption) (by assumption) | exact ga20 (by assumption) (by assumption)); (with_reducible first | exact v11_0 | exact v11_1 | exact v11_6 | exact v11_7 | exact v11_8 | exact v11_9 | exact v11_10 | exact w2 (by assumption) | exact w2 (min4 (by assumption)))) | (refine sf_adds ?_ ?_; (with_reducible first | exact v8_0 | exact v8_1 | exact v8_2 | exact v8_3 | exact v8_4 | exact v8_5 | exact v8_6 | exact v8_7)) | (refine sf_u (by omega) ?_)))); done))) (cwV 2 hts gX6_canGo_X6_canMove rfl rfl rfl (by decide +kernel) ⟨Nat.le_of_ble_eq_true rfl, Nat.le_of_ble_eq_true rfl⟩) hP hK hX hS 0 5 md_0 rfl rfl hl.1 rfl (Nat.le_of_ble_eq_true rfl) dX6_canGo_14 ⟨Nat.zero_le _, Nat.zero_le _⟩ ?_
    refine lv_goto (tgt := 26) hx hb dX6_canGo_17 (by decide) ?_
    exact ro_zret hx hb hr (zb_X6_canMove) (Eq.trans (if_pos c8) (rfl)) dX6_canGo_26 hlocks
theorem zb_X6_canGo {N : Nat → Int32} {Z : Nat → Nat → Int32} {x1 x2 : Int32} : narrow .boolean (.int (sp_X6_canGo N Z x1 x2)) = .int (sp_X6_canGo N Z x1 x2) := by
  unfold sp_X6_canGo
  (repeat' split) <;> first | (with_reducible exact zb_X6_canExchange) | (with_reducible exact zb_X6_canMove) | rfl

def sp_X6_walkOf (N : Nat → Int32) (Z : Nat → Nat → Int32) (x1 x2 x3 : Int32) : Int32 :=
  if (x2 / (6 : Int32)) ≤ (x3 / (6 : Int32)) then ((((((4 : Int32) * ((x3 / (6 : Int32)) - (x2 / (6 : Int32)))) + (sp_X6_reach x2)) + (sp_X6_reach x3)) + (sp_X6_of N Z x1 (0 : Int32)))) else ((((((4 : Int32) * ((x2 / (6 : Int32)) - (x3 / (6 : Int32)))) + (sp_X6_reach x2)) + (sp_X6_reach x3)) + (sp_X6_of N Z x1 (0 : Int32))))
set_option maxHeartbeats 4000000 in
set_option maxRecDepth 100000 in
theorem c_X6_walkOf (l : Launch) (D : va_G) (cI cC cW : ClassId) (t : Nat → Nat) (a : Nat → Nat) (N : Nat → Int32) (Z : Nat → Nat → Int32) (x1 x2 x3 : Int32) (h1 : vp_in x1 20) : Met l yX6_walkOf wsX6_walkOf ({ frames := 1, cells := 0, slots := 0, locals := 22 }) (va_Pc [.ref (a 0), .int x1, .int x2, .int x3] (roP D (tyL cI cC cW) (md cI a N Z) t)) (vp_Si (fun r => r = sp_X6_walkOf N Z x1 x2 x3)) 0 0 (fun _ => False) := by
  refine Met.ofW (cc := cX6_walkOf) (maxL := 5) (ret := (some .int)) (by decide) rfl ?_
  intro p e s m args below meth c s₁ B hml hv
  obtain ⟨rfl, hP, hK, hX⟩ := hv
  have hx := B.exec
  have hb := B.bytes
  have hr := B.returns
  have hts := atoms_spec (ws := wsX6_walkOf) B.pre
  have hown : s.vm.findClass RX6 = some m.cls := findClass_of_methodNamed B.named
  have hlocks := B.notSynchronized
  have hS : va_S (fun _ => False) s.heap s.heap [] := va_S.rf
  have CF : CallFix p m c cX6_walkOf 5 s [.ref (a 0), .int x1, .int x2, .int x3].toArray wsX6_walkOf RX6 := ⟨hx, hb, hml, hown, hts⟩
  have hl := lv_entry ([.ref (a 0), .int x1, .int x2, .int x3]) (n := 5) (Nat.le_of_ble_eq_true rfl)
  rw [lg_entry_eq]
  generalize (lg_sl ([.ref (a 0), .int x1, .int x2, .int x3]) ++ List.replicate (5 - (lg_sl ([.ref (a 0), .int x1, .int x2, .int x3])).length) Slot.unset).toArray = ls at hl ⊢
  have hl : lv_has ls 5 [(0, .ref (a 0)), (1, .int x1), (2, .int x2), (3, .int x3)] := hl
  refine lv_iload_n hx hb dX6_walkOf_0 rfl (lv_at hl 2 rfl) ?_
  refine lv_bipush (v := 6) hx hb dX6_walkOf_1 (by decide) ?_
  refine lv_idiv hx hb dX6_walkOf_3 (by first | assumption | decide) ?_
  refine lv_iload_n hx hb dX6_walkOf_4 rfl (lv_at hl 3 rfl) ?_
  refine lv_bipush (v := 6) hx hb dX6_walkOf_5 (by decide) ?_
  refine lv_idiv hx hb dX6_walkOf_7 (by first | assumption | decide) ?_
  refine lv_icmp_le (tgt := 23) hx hb dX6_walkOf_8 (by decide) (fun c8 => ?_) (fun c8 => ?_)
  · refine lv_iload_n hx hb dX6_walkOf_23 rfl (lv_at hl 3 rfl) ?_
    refine lv_bipush (v := 6) hx hb dX6_walkOf_24 (by decide) ?_
    refine lv_idiv hx hb dX6_walkOf_26 (by first | assumption | decide) ?_
    refine lv_iload_n hx hb dX6_walkOf_27 rfl (lv_at hl 2 rfl) ?_
    refine lv_bipush (v := 6) hx hb dX6_walkOf_28 (by decide) ?_
    refine lv_idiv hx hb dX6_walkOf_30 (by first | assumption | decide) ?_
    refine lv_isub hx hb dX6_walkOf_31 ?_
    refine lv_istore (lv' := [(4, .int _), (0, .ref _), (1, .int _), (2, .int _), (3, .int _)]) hx hb dX6_walkOf_32 hl (by decide) rfl (fun ls hl => ?_)
    refine lv_iconst (v := 4) hx hb dX6_walkOf_34 (by decide) ?_
    refine lv_iload hx hb dX6_walkOf_35 (lv_at hl 0 rfl) ?_
    refine lv_imul hx hb dX6_walkOf_37 ?_
    refine lv_iload_n hx hb dX6_walkOf_38 rfl (lv_at hl 3 rfl) ?_
    refine roS CF (c_X6_reach l D cI cC cW t _ ) (va_cwS 1 hts gX6_walkOf_X6_reach rfl rfl rfl (by decide +kernel) ⟨Nat.le_of_ble_eq_true rfl, Nat.le_of_ble_eq_true rfl⟩) vP_nil hK hX hS rfl hl.1 rfl (Nat.le_of_ble_eq_true rfl) dX6_walkOf_39 ⟨Nat.zero_le _, Nat.zero_le _⟩ ?_
    refine lv_iadd hx hb dX6_walkOf_42 ?_
    refine lv_iload_n hx hb dX6_walkOf_43 rfl (lv_at hl 4 rfl) ?_
    refine roS CF (c_X6_reach l D cI cC cW t _ ) (va_cwS 1 hts gX6_walkOf_X6_reach rfl rfl rfl (by decide +kernel) ⟨Nat.le_of_ble_eq_true rfl, Nat.le_of_ble_eq_true rfl⟩) vP_nil hK hX hS rfl hl.1 rfl (Nat.le_of_ble_eq_true rfl) dX6_walkOf_44 ⟨Nat.zero_le _, Nat.zero_le _⟩ ?_
    refine lv_iadd hx hb dX6_walkOf_47 ?_
    refine lv_aload_n hx hb dX6_walkOf_48 rfl (lv_at hl 1 rfl) ?_
    refine lv_iload_n hx hb dX6_walkOf_49 rfl (lv_at hl 2 rfl) ?_
    refine lv_iconst (v := 0) hx hb dX6_walkOf_50 (by decide) ?_
    refine roV CF (c_X6_of l D cI cC cW t _ _ _ _ _ (by first | (with_reducible first | assumption | exact m20 (by assumption) (by assumption) | exact ga20 (by assumption) (by assumption) | exact w2 (by assumption) | exact w2 (min4 (by assumption)) | exact w2 (s46 (by assumption)) | exact min4 (by assumption) | exact s46 (by assumption) | exact min11 (by assumption) (by assumption)) | (unfold vp_in; decide) | ((with_reducible (repeat (first | assumption | (refine sf_lays ?_ ?_ ?_; (with_reducible first | assumption | exact m20 (by assumption) (by assumption) | exact ga20 (by assumption) (by assumption)); (with_reducible first | exact v11_0 | exact v11_1 | exact v11_6 | exact v11_7 | exact v11_8 | exact v11_9 | exact v11_10 | exact w2 (by assumption) | exact w2 (min4 (by assumption)))) | (refine sf_adds ?_ ?_; (with_reducible first | exact v8_0 | exact v8_1 | exact v8_2 | exact v8_3 | exact v8_4 | exact v8_5 | exact v8_6 | exact v8_7)) | (refine sf_u (by omega) ?_)))); done)) (by first | (with_reducible first | assumption | exact m20 (by assumption) (by assumption) | exact ga20 (by assumption) (by assumption) | exact w2 (by assumption) | exact w2 (min4 (by assumption)) | exact w2 (s46 (by assumption)) | exact min4 (by assumption) | exact s46 (by assumption) | exact min11 (by assumption) (by assumption)) | (unfold vp_in; decide) | ((with_reducible (repeat (first | assumption | (refine sf_lays ?_ ?_ ?_; (with_reducible first | assumption | exact m20 (by assumption) (by assumption) | exact ga20 (by assumption) (by assumption)); (with_reducible first | exact v11_0 | exact v11_1 | exact v11_6 | exact v11_7 | exact v11_8 | exact v11_9 | exact v11_10 | exact w2 (by assumption) | exact w2 (min4 (by assumption)))) | (refine sf_adds ?_ ?_; (with_reducible first | exact v8_0 | exact v8_1 | exact v8_2 | exact v8_3 | exact v8_4 | exact v8_5 | exact v8_6 | exact v8_7)) | (refine sf_u (by omega) ?_)))); done))) (cwV 2 hts gX6_walkOf_X6_of rfl rfl rfl (by decide +kernel) ⟨Nat.le_of_ble_eq_true rfl, Nat.le_of_ble_eq_true rfl⟩) hP hK hX hS 0 5 md_0 rfl rfl hl.1 rfl (Nat.le_of_ble_eq_true rfl) dX6_walkOf_51 ⟨Nat.zero_le _, Nat.zero_le _⟩ ?_
    refine lv_iadd hx hb dX6_walkOf_54 ?_
    exact ro_ret hx hb hr (Eq.trans (if_pos c8) (rfl)) dX6_walkOf_55 hlocks
  · refine lv_iload_n hx hb dX6_walkOf_11 rfl (lv_at hl 2 rfl) ?_
    refine lv_bipush (v := 6) hx hb dX6_walkOf_12 (by decide) ?_
    refine lv_idiv hx hb dX6_walkOf_14 (by first | assumption | decide) ?_
    refine lv_iload_n hx hb dX6_walkOf_15 rfl (lv_at hl 3 rfl) ?_
    refine lv_bipush (v := 6) hx hb dX6_walkOf_16 (by decide) ?_
    refine lv_idiv hx hb dX6_walkOf_18 (by first | assumption | decide) ?_
    refine lv_isub hx hb dX6_walkOf_19 ?_
    refine lv_goto (tgt := 32) hx hb dX6_walkOf_20 (by decide) ?_
    refine lv_istore (lv' := [(4, .int _), (0, .ref _), (1, .int _), (2, .int _), (3, .int _)]) hx hb dX6_walkOf_32 hl (by decide) rfl (fun ls hl => ?_)
    refine lv_iconst (v := 4) hx hb dX6_walkOf_34 (by decide) ?_
    refine lv_iload hx hb dX6_walkOf_35 (lv_at hl 0 rfl) ?_
    refine lv_imul hx hb dX6_walkOf_37 ?_
    refine lv_iload_n hx hb dX6_walkOf_38 rfl (lv_at hl 3 rfl) ?_
    refine roS CF (c_X6_reach l D cI cC cW t _ ) (va_cwS 1 hts gX6_walkOf_X6_reach rfl rfl rfl (by decide +kernel) ⟨Nat.le_of_ble_eq_true rfl, Nat.le_of_ble_eq_true rfl⟩) vP_nil hK hX hS rfl hl.1 rfl (Nat.le_of_ble_eq_true rfl) dX6_walkOf_39 ⟨Nat.zero_le _, Nat.zero_le _⟩ ?_
    refine lv_iadd hx hb dX6_walkOf_42 ?_
    refine lv_iload_n hx hb dX6_walkOf_43 rfl (lv_at hl 4 rfl) ?_
    refine roS CF (c_X6_reach l D cI cC cW t _ ) (va_cwS 1 hts gX6_walkOf_X6_reach rfl rfl rfl (by decide +kernel) ⟨Nat.le_of_ble_eq_true rfl, Nat.le_of_ble_eq_true rfl⟩) vP_nil hK hX hS rfl hl.1 rfl (Nat.le_of_ble_eq_true rfl) dX6_walkOf_44 ⟨Nat.zero_le _, Nat.zero_le _⟩ ?_
    refine lv_iadd hx hb dX6_walkOf_47 ?_
    refine lv_aload_n hx hb dX6_walkOf_48 rfl (lv_at hl 1 rfl) ?_
    refine lv_iload_n hx hb dX6_walkOf_49 rfl (lv_at hl 2 rfl) ?_
    refine lv_iconst (v := 0) hx hb dX6_walkOf_50 (by decide) ?_
    refine roV CF (c_X6_of l D cI cC cW t _ _ _ _ _ (by first | (with_reducible first | assumption | exact m20 (by assumption) (by assumption) | exact ga20 (by assumption) (by assumption) | exact w2 (by assumption) | exact w2 (min4 (by assumption)) | exact w2 (s46 (by assumption)) | exact min4 (by assumption) | exact s46 (by assumption) | exact min11 (by assumption) (by assumption)) | (unfold vp_in; decide) | ((with_reducible (repeat (first | assumption | (refine sf_lays ?_ ?_ ?_; (with_reducible first | assumption | exact m20 (by assumption) (by assumption) | exact ga20 (by assumption) (by assumption)); (with_reducible first | exact v11_0 | exact v11_1 | exact v11_6 | exact v11_7 | exact v11_8 | exact v11_9 | exact v11_10 | exact w2 (by assumption) | exact w2 (min4 (by assumption)))) | (refine sf_adds ?_ ?_; (with_reducible first | exact v8_0 | exact v8_1 | exact v8_2 | exact v8_3 | exact v8_4 | exact v8_5 | exact v8_6 | exact v8_7)) | (refine sf_u (by omega) ?_)))); done)) (by first | (with_reducible first | assumption | exact m20 (by assumption) (by assumption) | exact ga20 (by assumption) (by assumption) | exact w2 (by assumption) | exact w2 (min4 (by assumption)) | exact w2 (s46 (by assumption)) | exact min4 (by assumption) | exact s46 (by assumption) | exact min11 (by assumption) (by assumption)) | (unfold vp_in; decide) | ((with_reducible (repeat (first | assumption | (refine sf_lays ?_ ?_ ?_; (with_reducible first | assumption | exact m20 (by assumption) (by assumption) | exact ga20 (by assumption) (by assumption)); (with_reducible first | exact v11_0 | exact v11_1 | exact v11_6 | exact v11_7 | exact v11_8 | exact v11_9 | exact v11_10 | exact w2 (by assumption) | exact w2 (min4 (by assumption)))) | (refine sf_adds ?_ ?_; (with_reducible first | exact v8_0 | exact v8_1 | exact v8_2 | exact v8_3 | exact v8_4 | exact v8_5 | exact v8_6 | exact v8_7)) | (refine sf_u (by omega) ?_)))); done))) (cwV 2 hts gX6_walkOf_X6_of rfl rfl rfl (by decide +kernel) ⟨Nat.le_of_ble_eq_true rfl, Nat.le_of_ble_eq_true rfl⟩) hP hK hX hS 0 5 md_0 rfl rfl hl.1 rfl (Nat.le_of_ble_eq_true rfl) dX6_walkOf_51 ⟨Nat.zero_le _, Nat.zero_le _⟩ ?_
    refine lv_iadd hx hb dX6_walkOf_54 ?_
    exact ro_ret hx hb hr (Eq.trans (if_neg c8) (rfl)) dX6_walkOf_55 hlocks

def sp_X6_goWalk (N : Nat → Int32) (Z : Nat → Nat → Int32) (x1 x2 : Int32) : Int32 :=
  if (sp_X6_goodAt N Z x2) = (-1 : Int32) then (((sp_X6_walkOf N Z x1 (sp_X6_of N Z x1 (6 : Int32)) x2) + (0 : Int32))) else (((sp_X6_walkOf N Z x1 (sp_X6_of N Z x1 (6 : Int32)) x2) + (sp_X6_walkOf N Z (sp_X6_goodAt N Z x2) x2 (sp_X6_of N Z x1 (6 : Int32)))))
set_option maxHeartbeats 4000000 in
set_option maxRecDepth 100000 in
theorem c_X6_goWalk (l : Launch) (D : va_G) (cI cC cW : ClassId) (t : Nat → Nat) (a : Nat → Nat) (N : Nat → Int32) (Z : Nat → Nat → Int32) (x1 x2 : Int32) (hsf : sfN N) (h1 : vp_in x1 20) : Met l yX6_goWalk wsX6_goWalk ({ frames := 2, cells := 0, slots := 0, locals := 46 }) (va_Pc [.ref (a 0), .int x1, .int x2] (roP D (tyL cI cC cW) (md cI a N Z) t)) (vp_Si (fun r => r = sp_X6_goWalk N Z x1 x2)) 0 0 (fun _ => False) := by
  refine Met.ofW (cc := cX6_goWalk) (maxL := 5) (ret := (some .int)) (by decide) rfl ?_
  intro p e s m args below meth c s₁ B hml hv
  obtain ⟨rfl, hP, hK, hX⟩ := hv
  have hx := B.exec
  have hb := B.bytes
  have hr := B.returns
  have hts := atoms_spec (ws := wsX6_goWalk) B.pre
  have hown : s.vm.findClass RX6 = some m.cls := findClass_of_methodNamed B.named
  have hlocks := B.notSynchronized
  have hS : va_S (fun _ => False) s.heap s.heap [] := va_S.rf
  have CF : CallFix p m c cX6_goWalk 5 s [.ref (a 0), .int x1, .int x2].toArray wsX6_goWalk RX6 := ⟨hx, hb, hml, hown, hts⟩
  have hl := lv_entry ([.ref (a 0), .int x1, .int x2]) (n := 5) (Nat.le_of_ble_eq_true rfl)
  rw [lg_entry_eq]
  generalize (lg_sl ([.ref (a 0), .int x1, .int x2]) ++ List.replicate (5 - (lg_sl ([.ref (a 0), .int x1, .int x2])).length) Slot.unset).toArray = ls at hl ⊢
  have hl : lv_has ls 5 [(0, .ref (a 0)), (1, .int x1), (2, .int x2)] := hl
  refine lv_aload_n hx hb dX6_goWalk_0 rfl (lv_at hl 0 rfl) ?_
  refine lv_iload_n hx hb dX6_goWalk_1 rfl (lv_at hl 2 rfl) ?_
  refine roV CF (c_X6_goodAt l D cI cC cW t _ _ _ _ (by first | (with_reducible first | assumption | exact m20 (by assumption) (by assumption) | exact ga20 (by assumption) (by assumption) | exact w2 (by assumption) | exact w2 (min4 (by assumption)) | exact w2 (s46 (by assumption)) | exact min4 (by assumption) | exact s46 (by assumption) | exact min11 (by assumption) (by assumption)) | (unfold vp_in; decide) | ((with_reducible (repeat (first | assumption | (refine sf_lays ?_ ?_ ?_; (with_reducible first | assumption | exact m20 (by assumption) (by assumption) | exact ga20 (by assumption) (by assumption)); (with_reducible first | exact v11_0 | exact v11_1 | exact v11_6 | exact v11_7 | exact v11_8 | exact v11_9 | exact v11_10 | exact w2 (by assumption) | exact w2 (min4 (by assumption)))) | (refine sf_adds ?_ ?_; (with_reducible first | exact v8_0 | exact v8_1 | exact v8_2 | exact v8_3 | exact v8_4 | exact v8_5 | exact v8_6 | exact v8_7)) | (refine sf_u (by omega) ?_)))); done))) (cwV 1 hts gX6_goWalk_X6_goodAt rfl rfl rfl (by decide +kernel) ⟨Nat.le_of_ble_eq_true rfl, Nat.le_of_ble_eq_true rfl⟩) hP hK hX hS 0 5 md_0 rfl rfl hl.1 rfl (Nat.le_of_ble_eq_true rfl) dX6_goWalk_2 ⟨Nat.zero_le _, Nat.zero_le _⟩ ?_
  refine lv_istore_n (lv' := [(3, .int _), (0, .ref _), (1, .int _), (2, .int _)]) hx hb dX6_goWalk_5 rfl hl (by decide) rfl (fun ls hl => ?_)
  refine lv_aload_n hx hb dX6_goWalk_6 rfl (lv_at hl 1 rfl) ?_
  refine lv_iload_n hx hb dX6_goWalk_7 rfl (lv_at hl 2 rfl) ?_
  refine lv_bipush (v := 6) hx hb dX6_goWalk_8 (by decide) ?_
  refine roV CF (c_X6_of l D cI cC cW t _ _ _ _ _ (by first | (with_reducible first | assumption | exact m20 (by assumption) (by assumption) | exact ga20 (by assumption) (by assumption) | exact w2 (by assumption) | exact w2 (min4 (by assumption)) | exact w2 (s46 (by assumption)) | exact min4 (by assumption) | exact s46 (by assumption) | exact min11 (by assumption) (by assumption)) | (unfold vp_in; decide) | ((with_reducible (repeat (first | assumption | (refine sf_lays ?_ ?_ ?_; (with_reducible first | assumption | exact m20 (by assumption) (by assumption) | exact ga20 (by assumption) (by assumption)); (with_reducible first | exact v11_0 | exact v11_1 | exact v11_6 | exact v11_7 | exact v11_8 | exact v11_9 | exact v11_10 | exact w2 (by assumption) | exact w2 (min4 (by assumption)))) | (refine sf_adds ?_ ?_; (with_reducible first | exact v8_0 | exact v8_1 | exact v8_2 | exact v8_3 | exact v8_4 | exact v8_5 | exact v8_6 | exact v8_7)) | (refine sf_u (by omega) ?_)))); done)) (by first | (with_reducible first | assumption | exact m20 (by assumption) (by assumption) | exact ga20 (by assumption) (by assumption) | exact w2 (by assumption) | exact w2 (min4 (by assumption)) | exact w2 (s46 (by assumption)) | exact min4 (by assumption) | exact s46 (by assumption) | exact min11 (by assumption) (by assumption)) | (unfold vp_in; decide) | ((with_reducible (repeat (first | assumption | (refine sf_lays ?_ ?_ ?_; (with_reducible first | assumption | exact m20 (by assumption) (by assumption) | exact ga20 (by assumption) (by assumption)); (with_reducible first | exact v11_0 | exact v11_1 | exact v11_6 | exact v11_7 | exact v11_8 | exact v11_9 | exact v11_10 | exact w2 (by assumption) | exact w2 (min4 (by assumption)))) | (refine sf_adds ?_ ?_; (with_reducible first | exact v8_0 | exact v8_1 | exact v8_2 | exact v8_3 | exact v8_4 | exact v8_5 | exact v8_6 | exact v8_7)) | (refine sf_u (by omega) ?_)))); done))) (cwV 2 hts gX6_goWalk_X6_of rfl rfl rfl (by decide +kernel) ⟨Nat.le_of_ble_eq_true rfl, Nat.le_of_ble_eq_true rfl⟩) hP hK hX hS 0 5 md_0 rfl rfl hl.1 rfl (Nat.le_of_ble_eq_true rfl) dX6_goWalk_10 ⟨Nat.zero_le _, Nat.zero_le _⟩ ?_
  refine lv_istore (lv' := [(4, .int _), (3, .int _), (0, .ref _), (1, .int _), (2, .int _)]) hx hb dX6_goWalk_13 hl (by decide) rfl (fun ls hl => ?_)
  refine lv_aload_n hx hb dX6_goWalk_15 rfl (lv_at hl 2 rfl) ?_
  refine lv_iload_n hx hb dX6_goWalk_16 rfl (lv_at hl 3 rfl) ?_
  refine lv_iload hx hb dX6_goWalk_17 (lv_at hl 0 rfl) ?_
  refine lv_iload_n hx hb dX6_goWalk_19 rfl (lv_at hl 4 rfl) ?_
  refine roV CF (c_X6_walkOf l D cI cC cW t _ _ _ _ _ _ (by first | (with_reducible first | assumption | exact m20 (by assumption) (by assumption) | exact ga20 (by assumption) (by assumption) | exact w2 (by assumption) | exact w2 (min4 (by assumption)) | exact w2 (s46 (by assumption)) | exact min4 (by assumption) | exact s46 (by assumption) | exact min11 (by assumption) (by assumption)) | (unfold vp_in; decide) | ((with_reducible (repeat (first | assumption | (refine sf_lays ?_ ?_ ?_; (with_reducible first | assumption | exact m20 (by assumption) (by assumption) | exact ga20 (by assumption) (by assumption)); (with_reducible first | exact v11_0 | exact v11_1 | exact v11_6 | exact v11_7 | exact v11_8 | exact v11_9 | exact v11_10 | exact w2 (by assumption) | exact w2 (min4 (by assumption)))) | (refine sf_adds ?_ ?_; (with_reducible first | exact v8_0 | exact v8_1 | exact v8_2 | exact v8_3 | exact v8_4 | exact v8_5 | exact v8_6 | exact v8_7)) | (refine sf_u (by omega) ?_)))); done))) (cwV 3 hts gX6_goWalk_X6_walkOf rfl rfl rfl (by decide +kernel) ⟨Nat.le_of_ble_eq_true rfl, Nat.le_of_ble_eq_true rfl⟩) hP hK hX hS 0 5 md_0 rfl rfl hl.1 rfl (Nat.le_of_ble_eq_true rfl) dX6_goWalk_20 ⟨Nat.zero_le _, Nat.zero_le _⟩ ?_
  refine lv_iload_n hx hb dX6_goWalk_23 rfl (lv_at hl 1 rfl) ?_
  refine lv_iconst (v := -1) hx hb dX6_goWalk_24 (by decide) ?_
  refine lv_icmp_ne (tgt := 32) hx hb dX6_goWalk_25 (by decide) (fun c25 => ?_) (fun c25 => ?_)
  · refine lv_aload_n hx hb dX6_goWalk_32 rfl (lv_at hl 2 rfl) ?_
    refine lv_iload_n hx hb dX6_goWalk_33 rfl (lv_at hl 1 rfl) ?_
    refine lv_iload_n hx hb dX6_goWalk_34 rfl (lv_at hl 4 rfl) ?_
    refine lv_iload hx hb dX6_goWalk_35 (lv_at hl 0 rfl) ?_
    refine roV CF (c_X6_walkOf l D cI cC cW t _ _ _ _ _ _ (by first | (with_reducible first | assumption | exact m20 (by assumption) (by assumption) | exact ga20 (by assumption) (by assumption) | exact w2 (by assumption) | exact w2 (min4 (by assumption)) | exact w2 (s46 (by assumption)) | exact min4 (by assumption) | exact s46 (by assumption) | exact min11 (by assumption) (by assumption)) | (unfold vp_in; decide) | ((with_reducible (repeat (first | assumption | (refine sf_lays ?_ ?_ ?_; (with_reducible first | assumption | exact m20 (by assumption) (by assumption) | exact ga20 (by assumption) (by assumption)); (with_reducible first | exact v11_0 | exact v11_1 | exact v11_6 | exact v11_7 | exact v11_8 | exact v11_9 | exact v11_10 | exact w2 (by assumption) | exact w2 (min4 (by assumption)))) | (refine sf_adds ?_ ?_; (with_reducible first | exact v8_0 | exact v8_1 | exact v8_2 | exact v8_3 | exact v8_4 | exact v8_5 | exact v8_6 | exact v8_7)) | (refine sf_u (by omega) ?_)))); done))) (cwV 3 hts gX6_goWalk_X6_walkOf rfl rfl rfl (by decide +kernel) ⟨Nat.le_of_ble_eq_true rfl, Nat.le_of_ble_eq_true rfl⟩) hP hK hX hS 0 5 md_0 rfl rfl hl.1 rfl (Nat.le_of_ble_eq_true rfl) dX6_goWalk_37 ⟨Nat.zero_le _, Nat.zero_le _⟩ ?_
    refine lv_iadd hx hb dX6_goWalk_40 ?_
    exact ro_ret hx hb hr (Eq.trans (if_neg c25) (rfl)) dX6_goWalk_41 hlocks
  · refine lv_iconst (v := 0) hx hb dX6_goWalk_28 (by decide) ?_
    refine lv_goto (tgt := 40) hx hb dX6_goWalk_29 (by decide) ?_
    refine lv_iadd hx hb dX6_goWalk_40 ?_
    exact ro_ret hx hb hr (Eq.trans (if_pos c25) (rfl)) dX6_goWalk_41 hlocks

def sp_X6_goSaves (N : Nat → Int32) (Z : Nat → Nat → Int32) (x1 x2 : Int32) : Int32 :=
  if (sp_X6_goodAt N Z x2) = (-1 : Int32) then ((((sp_X6_walk (sp_X6_of N Z x1 (6 : Int32))) - (sp_X6_walk x2)) * (sp_X6_of N Z x1 ((2 : Int32) + (sp_X6_season N Z))))) else ((((sp_X6_walk (sp_X6_of N Z x1 (6 : Int32))) - (sp_X6_walk x2)) * ((sp_X6_of N Z x1 ((2 : Int32) + (sp_X6_season N Z))) - (sp_X6_of N Z (sp_X6_goodAt N Z x2) ((2 : Int32) + (sp_X6_season N Z))))))
set_option maxHeartbeats 4000000 in
set_option maxRecDepth 100000 in
theorem c_X6_goSaves (l : Launch) (D : va_G) (cI cC cW : ClassId) (t : Nat → Nat) (a : Nat → Nat) (N : Nat → Int32) (Z : Nat → Nat → Int32) (x1 x2 : Int32) (hsf : sfN N) (h1 : vp_in x1 20) : Met l yX6_goSaves wsX6_goSaves ({ frames := 2, cells := 0, slots := 0, locals := 44 }) (va_Pc [.ref (a 0), .int x1, .int x2] (roP D (tyL cI cC cW) (md cI a N Z) t)) (vp_Si (fun r => r = sp_X6_goSaves N Z x1 x2)) 0 0 (fun _ => False) := by
  refine Met.ofW (cc := cX6_goSaves) (maxL := 6) (ret := (some .int)) (by decide) rfl ?_
  intro p e s m args below meth c s₁ B hml hv
  obtain ⟨rfl, hP, hK, hX⟩ := hv
  have hx := B.exec
  have hb := B.bytes
  have hr := B.returns
  have hts := atoms_spec (ws := wsX6_goSaves) B.pre
  have hown : s.vm.findClass RX6 = some m.cls := findClass_of_methodNamed B.named
  have hlocks := B.notSynchronized
  have hS : va_S (fun _ => False) s.heap s.heap [] := va_S.rf
  have CF : CallFix p m c cX6_goSaves 6 s [.ref (a 0), .int x1, .int x2].toArray wsX6_goSaves RX6 := ⟨hx, hb, hml, hown, hts⟩
  have hl := lv_entry ([.ref (a 0), .int x1, .int x2]) (n := 6) (Nat.le_of_ble_eq_true rfl)
  rw [lg_entry_eq]
  generalize (lg_sl ([.ref (a 0), .int x1, .int x2]) ++ List.replicate (6 - (lg_sl ([.ref (a 0), .int x1, .int x2])).length) Slot.unset).toArray = ls at hl ⊢
  have hl : lv_has ls 6 [(0, .ref (a 0)), (1, .int x1), (2, .int x2)] := hl
  refine lv_aload_n hx hb dX6_goSaves_0 rfl (lv_at hl 0 rfl) ?_
  refine lv_iload_n hx hb dX6_goSaves_1 rfl (lv_at hl 2 rfl) ?_
  refine roV CF (c_X6_goodAt l D cI cC cW t _ _ _ _ (by first | (with_reducible first | assumption | exact m20 (by assumption) (by assumption) | exact ga20 (by assumption) (by assumption) | exact w2 (by assumption) | exact w2 (min4 (by assumption)) | exact w2 (s46 (by assumption)) | exact min4 (by assumption) | exact s46 (by assumption) | exact min11 (by assumption) (by assumption)) | (unfold vp_in; decide) | ((with_reducible (repeat (first | assumption | (refine sf_lays ?_ ?_ ?_; (with_reducible first | assumption | exact m20 (by assumption) (by assumption) | exact ga20 (by assumption) (by assumption)); (with_reducible first | exact v11_0 | exact v11_1 | exact v11_6 | exact v11_7 | exact v11_8 | exact v11_9 | exact v11_10 | exact w2 (by assumption) | exact w2 (min4 (by assumption)))) | (refine sf_adds ?_ ?_; (with_reducible first | exact v8_0 | exact v8_1 | exact v8_2 | exact v8_3 | exact v8_4 | exact v8_5 | exact v8_6 | exact v8_7)) | (refine sf_u (by omega) ?_)))); done))) (cwV 1 hts gX6_goSaves_X6_goodAt rfl rfl rfl (by decide +kernel) ⟨Nat.le_of_ble_eq_true rfl, Nat.le_of_ble_eq_true rfl⟩) hP hK hX hS 0 5 md_0 rfl rfl hl.1 rfl (Nat.le_of_ble_eq_true rfl) dX6_goSaves_2 ⟨Nat.zero_le _, Nat.zero_le _⟩ ?_
  refine lv_istore_n (lv' := [(3, .int _), (0, .ref _), (1, .int _), (2, .int _)]) hx hb dX6_goSaves_5 rfl hl (by decide) rfl (fun ls hl => ?_)
  refine lv_aload_n hx hb dX6_goSaves_6 rfl (lv_at hl 1 rfl) ?_
  refine lv_iload_n hx hb dX6_goSaves_7 rfl (lv_at hl 2 rfl) ?_
  refine lv_bipush (v := 6) hx hb dX6_goSaves_8 (by decide) ?_
  refine roV CF (c_X6_of l D cI cC cW t _ _ _ _ _ (by first | (with_reducible first | assumption | exact m20 (by assumption) (by assumption) | exact ga20 (by assumption) (by assumption) | exact w2 (by assumption) | exact w2 (min4 (by assumption)) | exact w2 (s46 (by assumption)) | exact min4 (by assumption) | exact s46 (by assumption) | exact min11 (by assumption) (by assumption)) | (unfold vp_in; decide) | ((with_reducible (repeat (first | assumption | (refine sf_lays ?_ ?_ ?_; (with_reducible first | assumption | exact m20 (by assumption) (by assumption) | exact ga20 (by assumption) (by assumption)); (with_reducible first | exact v11_0 | exact v11_1 | exact v11_6 | exact v11_7 | exact v11_8 | exact v11_9 | exact v11_10 | exact w2 (by assumption) | exact w2 (min4 (by assumption)))) | (refine sf_adds ?_ ?_; (with_reducible first | exact v8_0 | exact v8_1 | exact v8_2 | exact v8_3 | exact v8_4 | exact v8_5 | exact v8_6 | exact v8_7)) | (refine sf_u (by omega) ?_)))); done)) (by first | (with_reducible first | assumption | exact m20 (by assumption) (by assumption) | exact ga20 (by assumption) (by assumption) | exact w2 (by assumption) | exact w2 (min4 (by assumption)) | exact w2 (s46 (by assumption)) | exact min4 (by assumption) | exact s46 (by assumption) | exact min11 (by assumption) (by assumption)) | (unfold vp_in; decide) | ((with_reducible (repeat (first | assumption | (refine sf_lays ?_ ?_ ?_; (with_reducible first | assumption | exact m20 (by assumption) (by assumption) | exact ga20 (by assumption) (by assumption)); (with_reducible first | exact v11_0 | exact v11_1 | exact v11_6 | exact v11_7 | exact v11_8 | exact v11_9 | exact v11_10 | exact w2 (by assumption) | exact w2 (min4 (by assumption)))) | (refine sf_adds ?_ ?_; (with_reducible first | exact v8_0 | exact v8_1 | exact v8_2 | exact v8_3 | exact v8_4 | exact v8_5 | exact v8_6 | exact v8_7)) | (refine sf_u (by omega) ?_)))); done))) (cwV 2 hts gX6_goSaves_X6_of rfl rfl rfl (by decide +kernel) ⟨Nat.le_of_ble_eq_true rfl, Nat.le_of_ble_eq_true rfl⟩) hP hK hX hS 0 5 md_0 rfl rfl hl.1 rfl (Nat.le_of_ble_eq_true rfl) dX6_goSaves_10 ⟨Nat.zero_le _, Nat.zero_le _⟩ ?_
  refine roS CF (c_X6_walk l D cI cC cW t _ ) (va_cwS 1 hts gX6_goSaves_X6_walk rfl rfl rfl (by decide +kernel) ⟨Nat.le_of_ble_eq_true rfl, Nat.le_of_ble_eq_true rfl⟩) vP_nil hK hX hS rfl hl.1 rfl (Nat.le_of_ble_eq_true rfl) dX6_goSaves_13 ⟨Nat.zero_le _, Nat.zero_le _⟩ ?_
  refine lv_iload_n hx hb dX6_goSaves_16 rfl (lv_at hl 3 rfl) ?_
  refine roS CF (c_X6_walk l D cI cC cW t _ ) (va_cwS 1 hts gX6_goSaves_X6_walk rfl rfl rfl (by decide +kernel) ⟨Nat.le_of_ble_eq_true rfl, Nat.le_of_ble_eq_true rfl⟩) vP_nil hK hX hS rfl hl.1 rfl (Nat.le_of_ble_eq_true rfl) dX6_goSaves_17 ⟨Nat.zero_le _, Nat.zero_le _⟩ ?_
  refine lv_isub hx hb dX6_goSaves_20 ?_
  refine lv_istore (lv' := [(4, .int _), (3, .int _), (0, .ref _), (1, .int _), (2, .int _)]) hx hb dX6_goSaves_21 hl (by decide) rfl (fun ls hl => ?_)
  refine lv_aload_n hx hb dX6_goSaves_23 rfl (lv_at hl 2 rfl) ?_
  refine lv_iload_n hx hb dX6_goSaves_24 rfl (lv_at hl 3 rfl) ?_
  refine lv_iconst (v := 2) hx hb dX6_goSaves_25 (by decide) ?_
  refine lv_aload_n hx hb dX6_goSaves_26 rfl (lv_at hl 2 rfl) ?_
  refine roV CF (c_X6_season l D cI cC cW t _ _ _  ) (cwV 0 hts gX6_goSaves_X6_season rfl rfl rfl (by decide +kernel) ⟨Nat.le_of_ble_eq_true rfl, Nat.le_of_ble_eq_true rfl⟩) hP hK hX hS 0 5 md_0 rfl rfl hl.1 rfl (Nat.le_of_ble_eq_true rfl) dX6_goSaves_27 ⟨Nat.zero_le _, Nat.zero_le _⟩ ?_
  refine lv_iadd hx hb dX6_goSaves_30 ?_
  refine roV CF (c_X6_of l D cI cC cW t _ _ _ _ _ (by first | (with_reducible first | assumption | exact m20 (by assumption) (by assumption) | exact ga20 (by assumption) (by assumption) | exact w2 (by assumption) | exact w2 (min4 (by assumption)) | exact w2 (s46 (by assumption)) | exact min4 (by assumption) | exact s46 (by assumption) | exact min11 (by assumption) (by assumption)) | (unfold vp_in; decide) | ((with_reducible (repeat (first | assumption | (refine sf_lays ?_ ?_ ?_; (with_reducible first | assumption | exact m20 (by assumption) (by assumption) | exact ga20 (by assumption) (by assumption)); (with_reducible first | exact v11_0 | exact v11_1 | exact v11_6 | exact v11_7 | exact v11_8 | exact v11_9 | exact v11_10 | exact w2 (by assumption) | exact w2 (min4 (by assumption)))) | (refine sf_adds ?_ ?_; (with_reducible first | exact v8_0 | exact v8_1 | exact v8_2 | exact v8_3 | exact v8_4 | exact v8_5 | exact v8_6 | exact v8_7)) | (refine sf_u (by omega) ?_)))); done)) (by first | (with_reducible first | assumption | exact m20 (by assumption) (by assumption) | exact ga20 (by assumption) (by assumption) | exact w2 (by assumption) | exact w2 (min4 (by assumption)) | exact w2 (s46 (by assumption)) | exact min4 (by assumption) | exact s46 (by assumption) | exact min11 (by assumption) (by assumption)) | (unfold vp_in; decide) | ((with_reducible (repeat (first | assumption | (refine sf_lays ?_ ?_ ?_; (with_reducible first | assumption | exact m20 (by assumption) (by assumption) | exact ga20 (by assumption) (by assumption)); (with_reducible first | exact v11_0 | exact v11_1 | exact v11_6 | exact v11_7 | exact v11_8 | exact v11_9 | exact v11_10 | exact w2 (by assumption) | exact w2 (min4 (by assumption)))) | (refine sf_adds ?_ ?_; (with_reducible first | exact v8_0 | exact v8_1 | exact v8_2 | exact v8_3 | exact v8_4 | exact v8_5 | exact v8_6 | exact v8_7)) | (refine sf_u (by omega) ?_)))); done))) (cwV 2 hts gX6_goSaves_X6_of rfl rfl rfl (by decide +kernel) ⟨Nat.le_of_ble_eq_true rfl, Nat.le_of_ble_eq_true rfl⟩) hP hK hX hS 0 5 md_0 rfl rfl hl.1 rfl (Nat.le_of_ble_eq_true rfl) dX6_goSaves_31 ⟨Nat.zero_le _, Nat.zero_le _⟩ ?_
  refine lv_istore (lv' := [(5, .int _), (4, .int _), (3, .int _), (0, .ref _), (1, .int _), (2, .int _)]) hx hb dX6_goSaves_34 hl (by decide) rfl (fun ls hl => ?_)
  refine lv_iload hx hb dX6_goSaves_36 (lv_at hl 1 rfl) ?_
  refine lv_iload_n hx hb dX6_goSaves_38 rfl (lv_at hl 2 rfl) ?_
  refine lv_iconst (v := -1) hx hb dX6_goSaves_39 (by decide) ?_
  refine lv_icmp_ne (tgt := 48) hx hb dX6_goSaves_40 (by decide) (fun c40 => ?_) (fun c40 => ?_)
  · refine lv_iload hx hb dX6_goSaves_48 (lv_at hl 0 rfl) ?_
    refine lv_aload_n hx hb dX6_goSaves_50 rfl (lv_at hl 3 rfl) ?_
    refine lv_iload_n hx hb dX6_goSaves_51 rfl (lv_at hl 2 rfl) ?_
    refine lv_iconst (v := 2) hx hb dX6_goSaves_52 (by decide) ?_
    refine lv_aload_n hx hb dX6_goSaves_53 rfl (lv_at hl 3 rfl) ?_
    refine roV CF (c_X6_season l D cI cC cW t _ _ _  ) (cwV 0 hts gX6_goSaves_X6_season rfl rfl rfl (by decide +kernel) ⟨Nat.le_of_ble_eq_true rfl, Nat.le_of_ble_eq_true rfl⟩) hP hK hX hS 0 5 md_0 rfl rfl hl.1 rfl (Nat.le_of_ble_eq_true rfl) dX6_goSaves_54 ⟨Nat.zero_le _, Nat.zero_le _⟩ ?_
    refine lv_iadd hx hb dX6_goSaves_57 ?_
    refine roV CF (c_X6_of l D cI cC cW t _ _ _ _ _ (by first | (with_reducible first | assumption | exact m20 (by assumption) (by assumption) | exact ga20 (by assumption) (by assumption) | exact w2 (by assumption) | exact w2 (min4 (by assumption)) | exact w2 (s46 (by assumption)) | exact min4 (by assumption) | exact s46 (by assumption) | exact min11 (by assumption) (by assumption)) | (unfold vp_in; decide) | ((with_reducible (repeat (first | assumption | (refine sf_lays ?_ ?_ ?_; (with_reducible first | assumption | exact m20 (by assumption) (by assumption) | exact ga20 (by assumption) (by assumption)); (with_reducible first | exact v11_0 | exact v11_1 | exact v11_6 | exact v11_7 | exact v11_8 | exact v11_9 | exact v11_10 | exact w2 (by assumption) | exact w2 (min4 (by assumption)))) | (refine sf_adds ?_ ?_; (with_reducible first | exact v8_0 | exact v8_1 | exact v8_2 | exact v8_3 | exact v8_4 | exact v8_5 | exact v8_6 | exact v8_7)) | (refine sf_u (by omega) ?_)))); done)) (by first | (with_reducible first | assumption | exact m20 (by assumption) (by assumption) | exact ga20 (by assumption) (by assumption) | exact w2 (by assumption) | exact w2 (min4 (by assumption)) | exact w2 (s46 (by assumption)) | exact min4 (by assumption) | exact s46 (by assumption) | exact min11 (by assumption) (by assumption)) | (unfold vp_in; decide) | ((with_reducible (repeat (first | assumption | (refine sf_lays ?_ ?_ ?_; (with_reducible first | assumption | exact m20 (by assumption) (by assumption) | exact ga20 (by assumption) (by assumption)); (with_reducible first | exact v11_0 | exact v11_1 | exact v11_6 | exact v11_7 | exact v11_8 | exact v11_9 | exact v11_10 | exact w2 (by assumption) | exact w2 (min4 (by assumption)))) | (refine sf_adds ?_ ?_; (with_reducible first | exact v8_0 | exact v8_1 | exact v8_2 | exact v8_3 | exact v8_4 | exact v8_5 | exact v8_6 | exact v8_7)) | (refine sf_u (by omega) ?_)))); done))) (cwV 2 hts gX6_goSaves_X6_of rfl rfl rfl (by decide +kernel) ⟨Nat.le_of_ble_eq_true rfl, Nat.le_of_ble_eq_true rfl⟩) hP hK hX hS 0 5 md_0 rfl rfl hl.1 rfl (Nat.le_of_ble_eq_true rfl) dX6_goSaves_58 ⟨Nat.zero_le _, Nat.zero_le _⟩ ?_
    refine lv_isub hx hb dX6_goSaves_61 ?_
    refine lv_imul hx hb dX6_goSaves_62 ?_
    exact ro_ret hx hb hr (Eq.trans (if_neg c40) (rfl)) dX6_goSaves_63 hlocks
  · refine lv_iload hx hb dX6_goSaves_43 (lv_at hl 0 rfl) ?_
    refine lv_goto (tgt := 62) hx hb dX6_goSaves_45 (by decide) ?_
    refine lv_imul hx hb dX6_goSaves_62 ?_
    exact ro_ret hx hb hr (Eq.trans (if_pos c40) (rfl)) dX6_goSaves_63 hlocks

def sp_X6_goWorth (N : Nat → Int32) (Z : Nat → Nat → Int32) (x1 x2 : Int32) : Int32 :=
  (((sp_X6_goSaves N Z x1 x2) * (sp_X6_weeksLeft N Z)) - (sp_X6_goWalk N Z x1 x2))
set_option maxHeartbeats 4000000 in
set_option maxRecDepth 100000 in
theorem c_X6_goWorth (l : Launch) (D : va_G) (cI cC cW : ClassId) (t : Nat → Nat) (a : Nat → Nat) (N : Nat → Int32) (Z : Nat → Nat → Int32) (x1 x2 : Int32) (hsf : sfN N) (h1 : vp_in x1 20) : Met l yX6_goWorth wsX6_goWorth ({ frames := 3, cells := 0, slots := 0, locals := 70 }) (va_Pc [.ref (a 0), .int x1, .int x2] (roP D (tyL cI cC cW) (md cI a N Z) t)) (vp_Si (fun r => r = sp_X6_goWorth N Z x1 x2)) 0 0 (fun _ => False) := by
  refine Met.ofW (cc := cX6_goWorth) (maxL := 3) (ret := (some .int)) (by decide) rfl ?_
  intro p e s m args below meth c s₁ B hml hv
  obtain ⟨rfl, hP, hK, hX⟩ := hv
  have hx := B.exec
  have hb := B.bytes
  have hr := B.returns
  have hts := atoms_spec (ws := wsX6_goWorth) B.pre
  have hown : s.vm.findClass RX6 = some m.cls := findClass_of_methodNamed B.named
  have hlocks := B.notSynchronized
  have hS : va_S (fun _ => False) s.heap s.heap [] := va_S.rf
  have CF : CallFix p m c cX6_goWorth 3 s [.ref (a 0), .int x1, .int x2].toArray wsX6_goWorth RX6 := ⟨hx, hb, hml, hown, hts⟩
  have hl := lv_entry ([.ref (a 0), .int x1, .int x2]) (n := 3) (Nat.le_of_ble_eq_true rfl)
  rw [lg_entry_eq]
  generalize (lg_sl ([.ref (a 0), .int x1, .int x2]) ++ List.replicate (3 - (lg_sl ([.ref (a 0), .int x1, .int x2])).length) Slot.unset).toArray = ls at hl ⊢
  have hl : lv_has ls 3 [(0, .ref (a 0)), (1, .int x1), (2, .int x2)] := hl
  refine lv_aload_n hx hb dX6_goWorth_0 rfl (lv_at hl 0 rfl) ?_
  refine lv_iload_n hx hb dX6_goWorth_1 rfl (lv_at hl 1 rfl) ?_
  refine lv_iload_n hx hb dX6_goWorth_2 rfl (lv_at hl 2 rfl) ?_
  refine roV CF (c_X6_goSaves l D cI cC cW t _ _ _ _ _ (by first | (with_reducible first | assumption | exact m20 (by assumption) (by assumption) | exact ga20 (by assumption) (by assumption) | exact w2 (by assumption) | exact w2 (min4 (by assumption)) | exact w2 (s46 (by assumption)) | exact min4 (by assumption) | exact s46 (by assumption) | exact min11 (by assumption) (by assumption)) | (unfold vp_in; decide) | ((with_reducible (repeat (first | assumption | (refine sf_lays ?_ ?_ ?_; (with_reducible first | assumption | exact m20 (by assumption) (by assumption) | exact ga20 (by assumption) (by assumption)); (with_reducible first | exact v11_0 | exact v11_1 | exact v11_6 | exact v11_7 | exact v11_8 | exact v11_9 | exact v11_10 | exact w2 (by assumption) | exact w2 (min4 (by assumption)))) | (refine sf_adds ?_ ?_; (with_reducible first | exact v8_0 | exact v8_1 | exact v8_2 | exact v8_3 | exact v8_4 | exact v8_5 | exact v8_6 | exact v8_7)) | (refine sf_u (by omega) ?_)))); done)) (by first | (with_reducible first | assumption | exact m20 (by assumption) (by assumption) | exact ga20 (by assumption) (by assumption) | exact w2 (by assumption) | exact w2 (min4 (by assumption)) | exact w2 (s46 (by assumption)) | exact min4 (by assumption) | exact s46 (by assumption) | exact min11 (by assumption) (by assumption)) | (unfold vp_in; decide) | ((with_reducible (repeat (first | assumption | (refine sf_lays ?_ ?_ ?_; (with_reducible first | assumption | exact m20 (by assumption) (by assumption) | exact ga20 (by assumption) (by assumption)); (with_reducible first | exact v11_0 | exact v11_1 | exact v11_6 | exact v11_7 | exact v11_8 | exact v11_9 | exact v11_10 | exact w2 (by assumption) | exact w2 (min4 (by assumption)))) | (refine sf_adds ?_ ?_; (with_reducible first | exact v8_0 | exact v8_1 | exact v8_2 | exact v8_3 | exact v8_4 | exact v8_5 | exact v8_6 | exact v8_7)) | (refine sf_u (by omega) ?_)))); done))) (cwV 2 hts gX6_goWorth_X6_goSaves rfl rfl rfl (by decide +kernel) ⟨Nat.le_of_ble_eq_true rfl, Nat.le_of_ble_eq_true rfl⟩) hP hK hX hS 0 5 md_0 rfl rfl hl.1 rfl (Nat.le_of_ble_eq_true rfl) dX6_goWorth_3 ⟨Nat.zero_le _, Nat.zero_le _⟩ ?_
  refine lv_aload_n hx hb dX6_goWorth_6 rfl (lv_at hl 0 rfl) ?_
  refine roV CF (c_X6_weeksLeft l D cI cC cW t _ _ _  ) (cwV 0 hts gX6_goWorth_X6_weeksLeft rfl rfl rfl (by decide +kernel) ⟨Nat.le_of_ble_eq_true rfl, Nat.le_of_ble_eq_true rfl⟩) hP hK hX hS 0 5 md_0 rfl rfl hl.1 rfl (Nat.le_of_ble_eq_true rfl) dX6_goWorth_7 ⟨Nat.zero_le _, Nat.zero_le _⟩ ?_
  refine lv_imul hx hb dX6_goWorth_10 ?_
  refine lv_aload_n hx hb dX6_goWorth_11 rfl (lv_at hl 0 rfl) ?_
  refine lv_iload_n hx hb dX6_goWorth_12 rfl (lv_at hl 1 rfl) ?_
  refine lv_iload_n hx hb dX6_goWorth_13 rfl (lv_at hl 2 rfl) ?_
  refine roV CF (c_X6_goWalk l D cI cC cW t _ _ _ _ _ (by first | (with_reducible first | assumption | exact m20 (by assumption) (by assumption) | exact ga20 (by assumption) (by assumption) | exact w2 (by assumption) | exact w2 (min4 (by assumption)) | exact w2 (s46 (by assumption)) | exact min4 (by assumption) | exact s46 (by assumption) | exact min11 (by assumption) (by assumption)) | (unfold vp_in; decide) | ((with_reducible (repeat (first | assumption | (refine sf_lays ?_ ?_ ?_; (with_reducible first | assumption | exact m20 (by assumption) (by assumption) | exact ga20 (by assumption) (by assumption)); (with_reducible first | exact v11_0 | exact v11_1 | exact v11_6 | exact v11_7 | exact v11_8 | exact v11_9 | exact v11_10 | exact w2 (by assumption) | exact w2 (min4 (by assumption)))) | (refine sf_adds ?_ ?_; (with_reducible first | exact v8_0 | exact v8_1 | exact v8_2 | exact v8_3 | exact v8_4 | exact v8_5 | exact v8_6 | exact v8_7)) | (refine sf_u (by omega) ?_)))); done)) (by first | (with_reducible first | assumption | exact m20 (by assumption) (by assumption) | exact ga20 (by assumption) (by assumption) | exact w2 (by assumption) | exact w2 (min4 (by assumption)) | exact w2 (s46 (by assumption)) | exact min4 (by assumption) | exact s46 (by assumption) | exact min11 (by assumption) (by assumption)) | (unfold vp_in; decide) | ((with_reducible (repeat (first | assumption | (refine sf_lays ?_ ?_ ?_; (with_reducible first | assumption | exact m20 (by assumption) (by assumption) | exact ga20 (by assumption) (by assumption)); (with_reducible first | exact v11_0 | exact v11_1 | exact v11_6 | exact v11_7 | exact v11_8 | exact v11_9 | exact v11_10 | exact w2 (by assumption) | exact w2 (min4 (by assumption)))) | (refine sf_adds ?_ ?_; (with_reducible first | exact v8_0 | exact v8_1 | exact v8_2 | exact v8_3 | exact v8_4 | exact v8_5 | exact v8_6 | exact v8_7)) | (refine sf_u (by omega) ?_)))); done))) (cwV 2 hts gX6_goWorth_X6_goWalk rfl rfl rfl (by decide +kernel) ⟨Nat.le_of_ble_eq_true rfl, Nat.le_of_ble_eq_true rfl⟩) hP hK hX hS 0 5 md_0 rfl rfl hl.1 rfl (Nat.le_of_ble_eq_true rfl) dX6_goWorth_14 ⟨Nat.zero_le _, Nat.zero_le _⟩ ?_
  refine lv_isub hx hb dX6_goWorth_17 ?_
  exact ro_ret hx hb hr (rfl) dX6_goWorth_18 hlocks

def sp_X6_goes (N : Nat → Int32) (Z : Nat → Nat → Int32) (x1 x2 : Int32) : Int32 × (Nat → Int32) :=
  let k22_1 : Nat → Int32 := sp_X6_adds N Z (2 : Int32) (sp_X6_goWalk N Z x1 x2); let k29_2 : Nat → Int32 := sp_X6_adds k22_1 Z (4 : Int32) (sp_X6_goSaves N Z x1 x2); let k36_3 : Nat → Int32 := sp_X6_adds k29_2 Z (6 : Int32) (1 : Int32); if (sp_X6_goodAt N Z x2) = (-1 : Int32) then (let k63_4 : Nat → Int32 := sp_X6_lays k36_3 Z x1 (6 : Int32) x2; ((sp_X6_goSaves N Z x1 x2), k63_4)) else (let k55_4 : Nat → Int32 := sp_X6_lays k36_3 Z (sp_X6_goodAt N Z x2) (6 : Int32) (sp_X6_of k36_3 Z x1 (6 : Int32)); let k63_5 : Nat → Int32 := sp_X6_lays k55_4 Z x1 (6 : Int32) x2; ((sp_X6_goSaves N Z x1 x2), k63_5))
set_option maxHeartbeats 4000000 in
set_option maxRecDepth 100000 in
theorem c_X6_goes (l : Launch) (D : va_G) (cI cC cW : ClassId) (t : Nat → Nat) (a : Nat → Nat) (sz : Nat) (N : Nat → Int32) (Z : Nat → Nat → Int32) (x1 x2 : Int32) (hsf : sfN N) (h1 : vp_in x1 20) : Met l yX6_goes wsX6_goes ({ frames := 3, cells := 0, slots := 0, locals := 70 }) (va_Pc [.ref (a 0), .int x1, .int x2] (rwP D (tyL cI cC cW) (md cI a N Z) t sz)) (va_Qi (fun (r : Int32) (u : Nat → Int32) => (r, u) = sp_X6_goes N Z x1 x2) (fun u => rwB D (va_A (md cI a N Z) sz) (md cI a u Z)) (va_A (md cI a N Z) sz)) 0 0 (va_A (md cI a N Z) sz) := by
  refine Met.ofW (cc := cX6_goes) (maxL := 5) (ret := (some .int)) (by decide) rfl ?_
  intro p e s m args below meth c s₁ B hml hv
  obtain ⟨rfl, hsz, hP, hK, hD0, hX⟩ := hv
  have hx := B.exec
  have hb := B.bytes
  have hr := B.returns
  have hts := atoms_spec (ws := wsX6_goes) B.pre
  have hown : s.vm.findClass RX6 = some m.cls := findClass_of_methodNamed B.named
  have hlocks := B.notSynchronized
  subst hsz
  have hD := hD0.self (sz := s.heap.size)
  generalize hAe : va_A (md cI a N Z) s.heap.size = A at hD hX ⊢
  have hA : ∀ q : Nat, s.heap.size ≤ q → A q := fun q h => by rw [← hAe]; exact Or.inr h
  have hS : va_S A s.heap s.heap [] := va_S.rf
  have CF : CallFix p m c cX6_goes 5 s [.ref (a 0), .int x1, .int x2].toArray wsX6_goes RX6 := ⟨hx, hb, hml, hown, hts⟩
  have hl := lv_entry ([.ref (a 0), .int x1, .int x2]) (n := 5) (Nat.le_of_ble_eq_true rfl)
  rw [lg_entry_eq]
  generalize (lg_sl ([.ref (a 0), .int x1, .int x2]) ++ List.replicate (5 - (lg_sl ([.ref (a 0), .int x1, .int x2])).length) Slot.unset).toArray = ls at hl ⊢
  have hl : lv_has ls 5 [(0, .ref (a 0)), (1, .int x1), (2, .int x2)] := hl
  refine lv_aload_n hx hb dX6_goes_0 rfl (lv_at hl 0 rfl) ?_
  refine lv_iload_n hx hb dX6_goes_1 rfl (lv_at hl 2 rfl) ?_
  refine roV CF (c_X6_goodAt l D cI cC cW t _ _ _ _ (by first | (with_reducible first | assumption | exact m20 (by assumption) (by assumption) | exact ga20 (by assumption) (by assumption) | exact w2 (by assumption) | exact w2 (min4 (by assumption)) | exact w2 (s46 (by assumption)) | exact min4 (by assumption) | exact s46 (by assumption) | exact min11 (by assumption) (by assumption)) | (unfold vp_in; decide) | ((with_reducible (repeat (first | assumption | (refine sf_lays ?_ ?_ ?_; (with_reducible first | assumption | exact m20 (by assumption) (by assumption) | exact ga20 (by assumption) (by assumption)); (with_reducible first | exact v11_0 | exact v11_1 | exact v11_6 | exact v11_7 | exact v11_8 | exact v11_9 | exact v11_10 | exact w2 (by assumption) | exact w2 (min4 (by assumption)))) | (refine sf_adds ?_ ?_; (with_reducible first | exact v8_0 | exact v8_1 | exact v8_2 | exact v8_3 | exact v8_4 | exact v8_5 | exact v8_6 | exact v8_7)) | (refine sf_u (by omega) ?_)))); done))) (cwV 1 hts gX6_goes_X6_goodAt rfl rfl rfl (by decide +kernel) ⟨Nat.le_of_ble_eq_true rfl, Nat.le_of_ble_eq_true rfl⟩) hP hK hX hS 0 5 md_0 rfl rfl hl.1 rfl (Nat.le_of_ble_eq_true rfl) dX6_goes_2 ⟨Nat.zero_le _, Nat.zero_le _⟩ ?_
  refine lv_istore_n (lv' := [(3, .int _), (0, .ref _), (1, .int _), (2, .int _)]) hx hb dX6_goes_5 rfl hl (by decide) rfl (fun ls hl => ?_)
  refine lv_aload_n hx hb dX6_goes_6 rfl (lv_at hl 1 rfl) ?_
  refine lv_iload_n hx hb dX6_goes_7 rfl (lv_at hl 2 rfl) ?_
  refine lv_iload_n hx hb dX6_goes_8 rfl (lv_at hl 3 rfl) ?_
  refine roV CF (c_X6_goSaves l D cI cC cW t _ _ _ _ _ (by first | (with_reducible first | assumption | exact m20 (by assumption) (by assumption) | exact ga20 (by assumption) (by assumption) | exact w2 (by assumption) | exact w2 (min4 (by assumption)) | exact w2 (s46 (by assumption)) | exact min4 (by assumption) | exact s46 (by assumption) | exact min11 (by assumption) (by assumption)) | (unfold vp_in; decide) | ((with_reducible (repeat (first | assumption | (refine sf_lays ?_ ?_ ?_; (with_reducible first | assumption | exact m20 (by assumption) (by assumption) | exact ga20 (by assumption) (by assumption)); (with_reducible first | exact v11_0 | exact v11_1 | exact v11_6 | exact v11_7 | exact v11_8 | exact v11_9 | exact v11_10 | exact w2 (by assumption) | exact w2 (min4 (by assumption)))) | (refine sf_adds ?_ ?_; (with_reducible first | exact v8_0 | exact v8_1 | exact v8_2 | exact v8_3 | exact v8_4 | exact v8_5 | exact v8_6 | exact v8_7)) | (refine sf_u (by omega) ?_)))); done)) (by first | (with_reducible first | assumption | exact m20 (by assumption) (by assumption) | exact ga20 (by assumption) (by assumption) | exact w2 (by assumption) | exact w2 (min4 (by assumption)) | exact w2 (s46 (by assumption)) | exact min4 (by assumption) | exact s46 (by assumption) | exact min11 (by assumption) (by assumption)) | (unfold vp_in; decide) | ((with_reducible (repeat (first | assumption | (refine sf_lays ?_ ?_ ?_; (with_reducible first | assumption | exact m20 (by assumption) (by assumption) | exact ga20 (by assumption) (by assumption)); (with_reducible first | exact v11_0 | exact v11_1 | exact v11_6 | exact v11_7 | exact v11_8 | exact v11_9 | exact v11_10 | exact w2 (by assumption) | exact w2 (min4 (by assumption)))) | (refine sf_adds ?_ ?_; (with_reducible first | exact v8_0 | exact v8_1 | exact v8_2 | exact v8_3 | exact v8_4 | exact v8_5 | exact v8_6 | exact v8_7)) | (refine sf_u (by omega) ?_)))); done))) (cwV 2 hts gX6_goes_X6_goSaves rfl rfl rfl (by decide +kernel) ⟨Nat.le_of_ble_eq_true rfl, Nat.le_of_ble_eq_true rfl⟩) hP hK hX hS 0 5 md_0 rfl rfl hl.1 rfl (Nat.le_of_ble_eq_true rfl) dX6_goes_9 ⟨Nat.zero_le _, Nat.zero_le _⟩ ?_
  refine lv_istore (lv' := [(4, .int _), (3, .int _), (0, .ref _), (1, .int _), (2, .int _)]) hx hb dX6_goes_12 hl (by decide) rfl (fun ls hl => ?_)
  refine lv_aload_n hx hb dX6_goes_14 rfl (lv_at hl 2 rfl) ?_
  refine lv_iconst (v := 2) hx hb dX6_goes_15 (by decide) ?_
  refine lv_aload_n hx hb dX6_goes_16 rfl (lv_at hl 2 rfl) ?_
  refine lv_iload_n hx hb dX6_goes_17 rfl (lv_at hl 3 rfl) ?_
  refine lv_iload_n hx hb dX6_goes_18 rfl (lv_at hl 4 rfl) ?_
  refine roV CF (c_X6_goWalk l D cI cC cW t _ _ _ _ _ (by first | (with_reducible first | assumption | exact m20 (by assumption) (by assumption) | exact ga20 (by assumption) (by assumption) | exact w2 (by assumption) | exact w2 (min4 (by assumption)) | exact w2 (s46 (by assumption)) | exact min4 (by assumption) | exact s46 (by assumption) | exact min11 (by assumption) (by assumption)) | (unfold vp_in; decide) | ((with_reducible (repeat (first | assumption | (refine sf_lays ?_ ?_ ?_; (with_reducible first | assumption | exact m20 (by assumption) (by assumption) | exact ga20 (by assumption) (by assumption)); (with_reducible first | exact v11_0 | exact v11_1 | exact v11_6 | exact v11_7 | exact v11_8 | exact v11_9 | exact v11_10 | exact w2 (by assumption) | exact w2 (min4 (by assumption)))) | (refine sf_adds ?_ ?_; (with_reducible first | exact v8_0 | exact v8_1 | exact v8_2 | exact v8_3 | exact v8_4 | exact v8_5 | exact v8_6 | exact v8_7)) | (refine sf_u (by omega) ?_)))); done)) (by first | (with_reducible first | assumption | exact m20 (by assumption) (by assumption) | exact ga20 (by assumption) (by assumption) | exact w2 (by assumption) | exact w2 (min4 (by assumption)) | exact w2 (s46 (by assumption)) | exact min4 (by assumption) | exact s46 (by assumption) | exact min11 (by assumption) (by assumption)) | (unfold vp_in; decide) | ((with_reducible (repeat (first | assumption | (refine sf_lays ?_ ?_ ?_; (with_reducible first | assumption | exact m20 (by assumption) (by assumption) | exact ga20 (by assumption) (by assumption)); (with_reducible first | exact v11_0 | exact v11_1 | exact v11_6 | exact v11_7 | exact v11_8 | exact v11_9 | exact v11_10 | exact w2 (by assumption) | exact w2 (min4 (by assumption)))) | (refine sf_adds ?_ ?_; (with_reducible first | exact v8_0 | exact v8_1 | exact v8_2 | exact v8_3 | exact v8_4 | exact v8_5 | exact v8_6 | exact v8_7)) | (refine sf_u (by omega) ?_)))); done))) (cwV 2 hts gX6_goes_X6_goWalk rfl rfl rfl (by decide +kernel) ⟨Nat.le_of_ble_eq_true rfl, Nat.le_of_ble_eq_true rfl⟩) hP hK hX hS 0 5 md_0 rfl rfl hl.1 rfl (Nat.le_of_ble_eq_true rfl) dX6_goes_19 ⟨Nat.zero_le _, Nat.zero_le _⟩ ?_
  refine rwVv CF (c_X6_adds l D cI cC cW t _ _ _ _ _ _ (by first | (with_reducible first | assumption | exact m20 (by assumption) (by assumption) | exact ga20 (by assumption) (by assumption) | exact w2 (by assumption) | exact w2 (min4 (by assumption)) | exact w2 (s46 (by assumption)) | exact min4 (by assumption) | exact s46 (by assumption) | exact min11 (by assumption) (by assumption)) | (unfold vp_in; decide) | ((with_reducible (repeat (first | assumption | (refine sf_lays ?_ ?_ ?_; (with_reducible first | assumption | exact m20 (by assumption) (by assumption) | exact ga20 (by assumption) (by assumption)); (with_reducible first | exact v11_0 | exact v11_1 | exact v11_6 | exact v11_7 | exact v11_8 | exact v11_9 | exact v11_10 | exact w2 (by assumption) | exact w2 (min4 (by assumption)))) | (refine sf_adds ?_ ?_; (with_reducible first | exact v8_0 | exact v8_1 | exact v8_2 | exact v8_3 | exact v8_4 | exact v8_5 | exact v8_6 | exact v8_7)) | (refine sf_u (by omega) ?_)))); done))) (cwV 2 hts gX6_goes_X6_adds rfl rfl rfl (by decide +kernel) ⟨Nat.le_of_ble_eq_true rfl, Nat.le_of_ble_eq_true rfl⟩) hP hD hK hX hS hA 0 5 md_0 rfl rfl hl.1 rfl (Nat.le_of_ble_eq_true rfl) dX6_goes_22 ⟨Nat.zero_le _, Nat.zero_le _⟩ (fun H locs hP hD hS => ?_)
  refine lv_aload_n hx hb dX6_goes_25 rfl (lv_at hl 2 rfl) ?_
  refine lv_iconst (v := 4) hx hb dX6_goes_26 (by decide) ?_
  refine lv_iload hx hb dX6_goes_27 (lv_at hl 0 rfl) ?_
  refine rwVv CF (c_X6_adds l D cI cC cW t _ _ _ _ _ _ (by first | (with_reducible first | assumption | exact m20 (by assumption) (by assumption) | exact ga20 (by assumption) (by assumption) | exact w2 (by assumption) | exact w2 (min4 (by assumption)) | exact w2 (s46 (by assumption)) | exact min4 (by assumption) | exact s46 (by assumption) | exact min11 (by assumption) (by assumption)) | (unfold vp_in; decide) | ((with_reducible (repeat (first | assumption | (refine sf_lays ?_ ?_ ?_; (with_reducible first | assumption | exact m20 (by assumption) (by assumption) | exact ga20 (by assumption) (by assumption)); (with_reducible first | exact v11_0 | exact v11_1 | exact v11_6 | exact v11_7 | exact v11_8 | exact v11_9 | exact v11_10 | exact w2 (by assumption) | exact w2 (min4 (by assumption)))) | (refine sf_adds ?_ ?_; (with_reducible first | exact v8_0 | exact v8_1 | exact v8_2 | exact v8_3 | exact v8_4 | exact v8_5 | exact v8_6 | exact v8_7)) | (refine sf_u (by omega) ?_)))); done))) (cwV 2 hts gX6_goes_X6_adds rfl rfl rfl (by decide +kernel) ⟨Nat.le_of_ble_eq_true rfl, Nat.le_of_ble_eq_true rfl⟩) hP hD hK hX hS hA 0 5 md_0 rfl rfl hl.1 rfl (Nat.le_of_ble_eq_true rfl) dX6_goes_29 ⟨Nat.zero_le _, Nat.zero_le _⟩ (fun H locs hP hD hS => ?_)
  refine lv_aload_n hx hb dX6_goes_32 rfl (lv_at hl 2 rfl) ?_
  refine lv_bipush (v := 6) hx hb dX6_goes_33 (by decide) ?_
  refine lv_iconst (v := 1) hx hb dX6_goes_35 (by decide) ?_
  refine rwVv CF (c_X6_adds l D cI cC cW t _ _ _ _ _ _ (by first | (with_reducible first | assumption | exact m20 (by assumption) (by assumption) | exact ga20 (by assumption) (by assumption) | exact w2 (by assumption) | exact w2 (min4 (by assumption)) | exact w2 (s46 (by assumption)) | exact min4 (by assumption) | exact s46 (by assumption) | exact min11 (by assumption) (by assumption)) | (unfold vp_in; decide) | ((with_reducible (repeat (first | assumption | (refine sf_lays ?_ ?_ ?_; (with_reducible first | assumption | exact m20 (by assumption) (by assumption) | exact ga20 (by assumption) (by assumption)); (with_reducible first | exact v11_0 | exact v11_1 | exact v11_6 | exact v11_7 | exact v11_8 | exact v11_9 | exact v11_10 | exact w2 (by assumption) | exact w2 (min4 (by assumption)))) | (refine sf_adds ?_ ?_; (with_reducible first | exact v8_0 | exact v8_1 | exact v8_2 | exact v8_3 | exact v8_4 | exact v8_5 | exact v8_6 | exact v8_7)) | (refine sf_u (by omega) ?_)))); done))) (cwV 2 hts gX6_goes_X6_adds rfl rfl rfl (by decide +kernel) ⟨Nat.le_of_ble_eq_true rfl, Nat.le_of_ble_eq_true rfl⟩) hP hD hK hX hS hA 0 5 md_0 rfl rfl hl.1 rfl (Nat.le_of_ble_eq_true rfl) dX6_goes_36 ⟨Nat.zero_le _, Nat.zero_le _⟩ (fun H locs hP hD hS => ?_)
  refine lv_iload_n hx hb dX6_goes_39 rfl (lv_at hl 1 rfl) ?_
  refine lv_iconst (v := -1) hx hb dX6_goes_40 (by decide) ?_
  refine lv_icmp_eq (tgt := 58) hx hb dX6_goes_41 (by decide) (fun c41 => ?_) (fun c41 => ?_)
  · refine lv_aload_n hx hb dX6_goes_58 rfl (lv_at hl 2 rfl) ?_
    refine lv_iload_n hx hb dX6_goes_59 rfl (lv_at hl 3 rfl) ?_
    refine lv_bipush (v := 6) hx hb dX6_goes_60 (by decide) ?_
    refine lv_iload_n hx hb dX6_goes_62 rfl (lv_at hl 4 rfl) ?_
    refine rwVv CF (c_X6_lays l D cI cC cW t _ _ _ _ _ _ _ (by first | (with_reducible first | assumption | exact m20 (by assumption) (by assumption) | exact ga20 (by assumption) (by assumption) | exact w2 (by assumption) | exact w2 (min4 (by assumption)) | exact w2 (s46 (by assumption)) | exact min4 (by assumption) | exact s46 (by assumption) | exact min11 (by assumption) (by assumption)) | (unfold vp_in; decide) | ((with_reducible (repeat (first | assumption | (refine sf_lays ?_ ?_ ?_; (with_reducible first | assumption | exact m20 (by assumption) (by assumption) | exact ga20 (by assumption) (by assumption)); (with_reducible first | exact v11_0 | exact v11_1 | exact v11_6 | exact v11_7 | exact v11_8 | exact v11_9 | exact v11_10 | exact w2 (by assumption) | exact w2 (min4 (by assumption)))) | (refine sf_adds ?_ ?_; (with_reducible first | exact v8_0 | exact v8_1 | exact v8_2 | exact v8_3 | exact v8_4 | exact v8_5 | exact v8_6 | exact v8_7)) | (refine sf_u (by omega) ?_)))); done)) (by first | (with_reducible first | assumption | exact m20 (by assumption) (by assumption) | exact ga20 (by assumption) (by assumption) | exact w2 (by assumption) | exact w2 (min4 (by assumption)) | exact w2 (s46 (by assumption)) | exact min4 (by assumption) | exact s46 (by assumption) | exact min11 (by assumption) (by assumption)) | (unfold vp_in; decide) | ((with_reducible (repeat (first | assumption | (refine sf_lays ?_ ?_ ?_; (with_reducible first | assumption | exact m20 (by assumption) (by assumption) | exact ga20 (by assumption) (by assumption)); (with_reducible first | exact v11_0 | exact v11_1 | exact v11_6 | exact v11_7 | exact v11_8 | exact v11_9 | exact v11_10 | exact w2 (by assumption) | exact w2 (min4 (by assumption)))) | (refine sf_adds ?_ ?_; (with_reducible first | exact v8_0 | exact v8_1 | exact v8_2 | exact v8_3 | exact v8_4 | exact v8_5 | exact v8_6 | exact v8_7)) | (refine sf_u (by omega) ?_)))); done))) (cwV 3 hts gX6_goes_X6_lays rfl rfl rfl (by decide +kernel) ⟨Nat.le_of_ble_eq_true rfl, Nat.le_of_ble_eq_true rfl⟩) hP hD hK hX hS hA 0 5 md_0 rfl rfl hl.1 rfl (Nat.le_of_ble_eq_true rfl) dX6_goes_63 ⟨Nat.zero_le _, Nat.zero_le _⟩ (fun H locs hP hD hS => ?_)
    refine lv_iload hx hb dX6_goes_66 (lv_at hl 0 rfl) ?_
    exact rw_ret _ hx hb hr hP hD hS (Eq.trans (if_pos c41) (rfl)) dX6_goes_68 hlocks
  · refine lv_aload_n hx hb dX6_goes_44 rfl (lv_at hl 2 rfl) ?_
    refine lv_iload_n hx hb dX6_goes_45 rfl (lv_at hl 1 rfl) ?_
    refine lv_bipush (v := 6) hx hb dX6_goes_46 (by decide) ?_
    refine lv_aload_n hx hb dX6_goes_48 rfl (lv_at hl 2 rfl) ?_
    refine lv_iload_n hx hb dX6_goes_49 rfl (lv_at hl 3 rfl) ?_
    refine lv_bipush (v := 6) hx hb dX6_goes_50 (by decide) ?_
    refine roV CF (c_X6_of l D cI cC cW t _ _ _ _ _ (by first | (with_reducible first | assumption | exact m20 (by assumption) (by assumption) | exact ga20 (by assumption) (by assumption) | exact w2 (by assumption) | exact w2 (min4 (by assumption)) | exact w2 (s46 (by assumption)) | exact min4 (by assumption) | exact s46 (by assumption) | exact min11 (by assumption) (by assumption)) | (unfold vp_in; decide) | ((with_reducible (repeat (first | assumption | (refine sf_lays ?_ ?_ ?_; (with_reducible first | assumption | exact m20 (by assumption) (by assumption) | exact ga20 (by assumption) (by assumption)); (with_reducible first | exact v11_0 | exact v11_1 | exact v11_6 | exact v11_7 | exact v11_8 | exact v11_9 | exact v11_10 | exact w2 (by assumption) | exact w2 (min4 (by assumption)))) | (refine sf_adds ?_ ?_; (with_reducible first | exact v8_0 | exact v8_1 | exact v8_2 | exact v8_3 | exact v8_4 | exact v8_5 | exact v8_6 | exact v8_7)) | (refine sf_u (by omega) ?_)))); done)) (by first | (with_reducible first | assumption | exact m20 (by assumption) (by assumption) | exact ga20 (by assumption) (by assumption) | exact w2 (by assumption) | exact w2 (min4 (by assumption)) | exact w2 (s46 (by assumption)) | exact min4 (by assumption) | exact s46 (by assumption) | exact min11 (by assumption) (by assumption)) | (unfold vp_in; decide) | ((with_reducible (repeat (first | assumption | (refine sf_lays ?_ ?_ ?_; (with_reducible first | assumption | exact m20 (by assumption) (by assumption) | exact ga20 (by assumption) (by assumption)); (with_reducible first | exact v11_0 | exact v11_1 | exact v11_6 | exact v11_7 | exact v11_8 | exact v11_9 | exact v11_10 | exact w2 (by assumption) | exact w2 (min4 (by assumption)))) | (refine sf_adds ?_ ?_; (with_reducible first | exact v8_0 | exact v8_1 | exact v8_2 | exact v8_3 | exact v8_4 | exact v8_5 | exact v8_6 | exact v8_7)) | (refine sf_u (by omega) ?_)))); done))) (cwV 2 hts gX6_goes_X6_of rfl rfl rfl (by decide +kernel) ⟨Nat.le_of_ble_eq_true rfl, Nat.le_of_ble_eq_true rfl⟩) hP hK hX hS 0 5 md_0 rfl rfl hl.1 rfl (Nat.le_of_ble_eq_true rfl) dX6_goes_52 ⟨Nat.zero_le _, Nat.zero_le _⟩ ?_
    refine rwVv CF (c_X6_lays l D cI cC cW t _ _ _ _ _ _ _ (by first | (with_reducible first | assumption | exact m20 (by assumption) (by assumption) | exact ga20 (by assumption) (by assumption) | exact w2 (by assumption) | exact w2 (min4 (by assumption)) | exact w2 (s46 (by assumption)) | exact min4 (by assumption) | exact s46 (by assumption) | exact min11 (by assumption) (by assumption)) | (unfold vp_in; decide) | ((with_reducible (repeat (first | assumption | (refine sf_lays ?_ ?_ ?_; (with_reducible first | assumption | exact m20 (by assumption) (by assumption) | exact ga20 (by assumption) (by assumption)); (with_reducible first | exact v11_0 | exact v11_1 | exact v11_6 | exact v11_7 | exact v11_8 | exact v11_9 | exact v11_10 | exact w2 (by assumption) | exact w2 (min4 (by assumption)))) | (refine sf_adds ?_ ?_; (with_reducible first | exact v8_0 | exact v8_1 | exact v8_2 | exact v8_3 | exact v8_4 | exact v8_5 | exact v8_6 | exact v8_7)) | (refine sf_u (by omega) ?_)))); done)) (by first | (with_reducible first | assumption | exact m20 (by assumption) (by assumption) | exact ga20 (by assumption) (by assumption) | exact w2 (by assumption) | exact w2 (min4 (by assumption)) | exact w2 (s46 (by assumption)) | exact min4 (by assumption) | exact s46 (by assumption) | exact min11 (by assumption) (by assumption)) | (unfold vp_in; decide) | ((with_reducible (repeat (first | assumption | (refine sf_lays ?_ ?_ ?_; (with_reducible first | assumption | exact m20 (by assumption) (by assumption) | exact ga20 (by assumption) (by assumption)); (with_reducible first | exact v11_0 | exact v11_1 | exact v11_6 | exact v11_7 | exact v11_8 | exact v11_9 | exact v11_10 | exact w2 (by assumption) | exact w2 (min4 (by assumption)))) | (refine sf_adds ?_ ?_; (with_reducible first | exact v8_0 | exact v8_1 | exact v8_2 | exact v8_3 | exact v8_4 | exact v8_5 | exact v8_6 | exact v8_7)) | (refine sf_u (by omega) ?_)))); done))) (cwV 3 hts gX6_goes_X6_lays rfl rfl rfl (by decide +kernel) ⟨Nat.le_of_ble_eq_true rfl, Nat.le_of_ble_eq_true rfl⟩) hP hD hK hX hS hA 0 5 md_0 rfl rfl hl.1 rfl (Nat.le_of_ble_eq_true rfl) dX6_goes_55 ⟨Nat.zero_le _, Nat.zero_le _⟩ (fun H locs hP hD hS => ?_)
    refine lv_aload_n hx hb dX6_goes_58 rfl (lv_at hl 2 rfl) ?_
    refine lv_iload_n hx hb dX6_goes_59 rfl (lv_at hl 3 rfl) ?_
    refine lv_bipush (v := 6) hx hb dX6_goes_60 (by decide) ?_
    refine lv_iload_n hx hb dX6_goes_62 rfl (lv_at hl 4 rfl) ?_
    refine rwVv CF (c_X6_lays l D cI cC cW t _ _ _ _ _ _ _ (by first | (with_reducible first | assumption | exact m20 (by assumption) (by assumption) | exact ga20 (by assumption) (by assumption) | exact w2 (by assumption) | exact w2 (min4 (by assumption)) | exact w2 (s46 (by assumption)) | exact min4 (by assumption) | exact s46 (by assumption) | exact min11 (by assumption) (by assumption)) | (unfold vp_in; decide) | ((with_reducible (repeat (first | assumption | (refine sf_lays ?_ ?_ ?_; (with_reducible first | assumption | exact m20 (by assumption) (by assumption) | exact ga20 (by assumption) (by assumption)); (with_reducible first | exact v11_0 | exact v11_1 | exact v11_6 | exact v11_7 | exact v11_8 | exact v11_9 | exact v11_10 | exact w2 (by assumption) | exact w2 (min4 (by assumption)))) | (refine sf_adds ?_ ?_; (with_reducible first | exact v8_0 | exact v8_1 | exact v8_2 | exact v8_3 | exact v8_4 | exact v8_5 | exact v8_6 | exact v8_7)) | (refine sf_u (by omega) ?_)))); done)) (by first | (with_reducible first | assumption | exact m20 (by assumption) (by assumption) | exact ga20 (by assumption) (by assumption) | exact w2 (by assumption) | exact w2 (min4 (by assumption)) | exact w2 (s46 (by assumption)) | exact min4 (by assumption) | exact s46 (by assumption) | exact min11 (by assumption) (by assumption)) | (unfold vp_in; decide) | ((with_reducible (repeat (first | assumption | (refine sf_lays ?_ ?_ ?_; (with_reducible first | assumption | exact m20 (by assumption) (by assumption) | exact ga20 (by assumption) (by assumption)); (with_reducible first | exact v11_0 | exact v11_1 | exact v11_6 | exact v11_7 | exact v11_8 | exact v11_9 | exact v11_10 | exact w2 (by assumption) | exact w2 (min4 (by assumption)))) | (refine sf_adds ?_ ?_; (with_reducible first | exact v8_0 | exact v8_1 | exact v8_2 | exact v8_3 | exact v8_4 | exact v8_5 | exact v8_6 | exact v8_7)) | (refine sf_u (by omega) ?_)))); done))) (cwV 3 hts gX6_goes_X6_lays rfl rfl rfl (by decide +kernel) ⟨Nat.le_of_ble_eq_true rfl, Nat.le_of_ble_eq_true rfl⟩) hP hD hK hX hS hA 0 5 md_0 rfl rfl hl.1 rfl (Nat.le_of_ble_eq_true rfl) dX6_goes_63 ⟨Nat.zero_le _, Nat.zero_le _⟩ (fun H locs hP hD hS => ?_)
    refine lv_iload hx hb dX6_goes_66 (lv_at hl 0 rfl) ?_
    exact rw_ret _ hx hb hr hP hD hS (Eq.trans (if_neg c41) (rfl)) dX6_goes_68 hlocks

def sp_X6_account (N : Nat → Int32) (Z : Nat → Nat → Int32) (x1 : Int32) : Int32 :=
  if (sp_X6_in x1 (0 : Int32) (7 : Int32)) = 0 then ((-1 : Int32)) else (if x1 = (4 : Int32) then (((100000000 : Int32) + (N ((ix ((5 : Int32) + x1)))))) else (if x1 = (5 : Int32) then (((100000000 : Int32) + (N ((ix ((5 : Int32) + x1)))))) else (((0 : Int32) + (N ((ix ((5 : Int32) + x1))))))))
set_option maxHeartbeats 4000000 in
set_option maxRecDepth 100000 in
theorem c_X6_account (l : Launch) (D : va_G) (cI cC cW : ClassId) (t : Nat → Nat) (a : Nat → Nat) (N : Nat → Int32) (Z : Nat → Nat → Int32) (x1 : Int32)  : Met l yX6_account wsX6_account ({ frames := 1, cells := 0, slots := 0, locals := 22 }) (va_Pc [.ref (a 0), .int x1] (roP D (tyL cI cC cW) (md cI a N Z) t)) (vp_Si (fun r => r = sp_X6_account N Z x1)) 0 0 (fun _ => False) := by
  refine Met.ofW (cc := cX6_account) (maxL := 2) (ret := (some .int)) (by decide) rfl ?_
  intro p e s m args below meth c s₁ B hml hv
  obtain ⟨rfl, hP, hK, hX⟩ := hv
  have hx := B.exec
  have hb := B.bytes
  have hr := B.returns
  have hts := atoms_spec (ws := wsX6_account) B.pre
  have hown : s.vm.findClass RX6 = some m.cls := findClass_of_methodNamed B.named
  have hlocks := B.notSynchronized
  have hS : va_S (fun _ => False) s.heap s.heap [] := va_S.rf
  have wd1 : (Cond.constant RX6 127 (100000000)).before [.ref (a 0), .int x1].toArray s = true := hts _ (List.mem_of_getElem? (i := 1) rfl)
  have wd2 : (Cond.fieldLink RX6 7 "PickSlotsModel" "now" "[I").before [.ref (a 0), .int x1].toArray s = true := hts _ (List.mem_of_getElem? (i := 2) rfl)
  have hi6 : ∀ w ∈ wsX60, w ∈ wsX6_account := fun w h => List.mem_cons_of_mem _ (List.mem_append_right _ (h))
  have CF : CallFix p m c cX6_account 2 s [.ref (a 0), .int x1].toArray wsX6_account RX6 := ⟨hx, hb, hml, hown, hts⟩
  have hl := lv_entry ([.ref (a 0), .int x1]) (n := 2) (Nat.le_of_ble_eq_true rfl)
  rw [lg_entry_eq]
  generalize (lg_sl ([.ref (a 0), .int x1]) ++ List.replicate (2 - (lg_sl ([.ref (a 0), .int x1])).length) Slot.unset).toArray = ls at hl ⊢
  have hl : lv_has ls 2 [(0, .ref (a 0)), (1, .int x1)] := hl
  refine lv_iload_n hx hb dX6_account_0 rfl (lv_at hl 1 rfl) ?_
  refine lv_iconst (v := 0) hx hb dX6_account_1 (by decide) ?_
  refine lv_bipush (v := 7) hx hb dX6_account_2 (by decide) ?_
  refine roS CF (c_X6_in l D cI cC cW t _ _ _ ) (va_cwS 3 hts gX6_account_X6_in rfl rfl rfl (by decide +kernel) ⟨Nat.le_of_ble_eq_true rfl, Nat.le_of_ble_eq_true rfl⟩) vP_nil hK hX hS rfl hl.1 rfl (Nat.le_of_ble_eq_true rfl) dX6_account_4 ⟨Nat.zero_le _, Nat.zero_le _⟩ ?_
  refine lv_if_ne (tgt := 12) hx hb dX6_account_7 (by decide) (fun c7 => ?_) (fun c7 => ?_)
  · have h8 : vp_in x1 8 := min8 c7
    refine lv_iload_n hx hb dX6_account_12 rfl (lv_at hl 1 rfl) ?_
    refine lv_iconst (v := 4) hx hb dX6_account_13 (by decide) ?_
    refine lv_icmp_eq (tgt := 22) hx hb dX6_account_14 (by decide) (fun c14 => ?_) (fun c14 => ?_)
    · refine lv_ldc hx hb hown wd1 dX6_account_22 ?_
      refine lv_goto (tgt := 28) hx hb dX6_account_24 (by decide) ?_
      refine lv_aload_n hx hb dX6_account_28 rfl (lv_at hl 0 rfl) ?_
      refine va_get (D := D) (ci := 5) (C := RX6) (T := TX6) (N := 17) hx hb hts hi6 hown hK hP 0 md_0 rfl 0 (by decide) wd2 (fun _ h9 => h9) rfl dX6_account_29 ?_
      refine lv_iconst (v := 5) hx hb dX6_account_32 (by decide) ?_
      refine lv_iload_n hx hb dX6_account_33 rfl (lv_at hl 1 rfl) ?_
      refine lv_iadd hx hb dX6_account_34 ?_
      refine va_iald hx hb hK hP 1 0 md_1 rfl (m5 h8) dX6_account_35 ?_
      refine lv_iadd hx hb dX6_account_36 ?_
      exact ro_ret hx hb hr (Eq.trans (if_neg c7) (Eq.trans (if_pos c14) (rfl))) dX6_account_37 hlocks
    · refine lv_iload_n hx hb dX6_account_17 rfl (lv_at hl 1 rfl) ?_
      refine lv_iconst (v := 5) hx hb dX6_account_18 (by decide) ?_
      refine lv_icmp_ne (tgt := 27) hx hb dX6_account_19 (by decide) (fun c19 => ?_) (fun c19 => ?_)
      · refine lv_iconst (v := 0) hx hb dX6_account_27 (by decide) ?_
        refine lv_aload_n hx hb dX6_account_28 rfl (lv_at hl 0 rfl) ?_
        refine va_get (D := D) (ci := 5) (C := RX6) (T := TX6) (N := 17) hx hb hts hi6 hown hK hP 0 md_0 rfl 0 (by decide) wd2 (fun _ h9 => h9) rfl dX6_account_29 ?_
        refine lv_iconst (v := 5) hx hb dX6_account_32 (by decide) ?_
        refine lv_iload_n hx hb dX6_account_33 rfl (lv_at hl 1 rfl) ?_
        refine lv_iadd hx hb dX6_account_34 ?_
        refine va_iald hx hb hK hP 1 0 md_1 rfl (m5 h8) dX6_account_35 ?_
        refine lv_iadd hx hb dX6_account_36 ?_
        exact ro_ret hx hb hr (Eq.trans (if_neg c7) (Eq.trans (if_neg c14) (Eq.trans (if_neg c19) (rfl)))) dX6_account_37 hlocks
      · refine lv_ldc hx hb hown wd1 dX6_account_22 ?_
        refine lv_goto (tgt := 28) hx hb dX6_account_24 (by decide) ?_
        refine lv_aload_n hx hb dX6_account_28 rfl (lv_at hl 0 rfl) ?_
        refine va_get (D := D) (ci := 5) (C := RX6) (T := TX6) (N := 17) hx hb hts hi6 hown hK hP 0 md_0 rfl 0 (by decide) wd2 (fun _ h9 => h9) rfl dX6_account_29 ?_
        refine lv_iconst (v := 5) hx hb dX6_account_32 (by decide) ?_
        refine lv_iload_n hx hb dX6_account_33 rfl (lv_at hl 1 rfl) ?_
        refine lv_iadd hx hb dX6_account_34 ?_
        refine va_iald hx hb hK hP 1 0 md_1 rfl (m5 h8) dX6_account_35 ?_
        refine lv_iadd hx hb dX6_account_36 ?_
        exact ro_ret hx hb hr (Eq.trans (if_neg c7) (Eq.trans (if_neg c14) (Eq.trans (if_pos c19) (rfl)))) dX6_account_37 hlocks
  · refine lv_iconst (v := -1) hx hb dX6_account_10 (by decide) ?_
    exact ro_ret hx hb hr (Eq.trans (if_pos c7) (rfl)) dX6_account_11 hlocks

def lp4_X6_sumOf (N : Nat → Int32) (Z : Nat → Nat → Int32) (x1 : Int32) : Nat → Int32 → Int32 → Int32
  | 0, v2, v3 => 0
  | n + 1, v2, v3 => if (N 0) ≤ v3 then (v2) else (if (sp_X6_of N Z v3 (6 : Int32)) = (-1 : Int32) then (if x1 = (5 : Int32) then (lp4_X6_sumOf N Z x1 n (v2 + (sp_X6_of N Z v3 (7 : Int32))) (v3 + (1 : Int32)) ) else (if x1 = (6 : Int32) then (lp4_X6_sumOf N Z x1 n (v2 + (sp_X6_of N Z v3 (8 : Int32))) (v3 + (1 : Int32)) ) else (lp4_X6_sumOf N Z x1 n (v2 + (0 : Int32)) (v3 + (1 : Int32)) ))) else (if x1 = (5 : Int32) then (lp4_X6_sumOf N Z x1 n (v2 + (sp_X6_of N Z v3 (7 : Int32))) (v3 + (1 : Int32)) ) else (if x1 = (6 : Int32) then (lp4_X6_sumOf N Z x1 n (v2 + (sp_X6_of N Z v3 (8 : Int32))) (v3 + (1 : Int32)) ) else (if x1 = (1 : Int32) then (lp4_X6_sumOf N Z x1 n (v2 + (1 : Int32)) (v3 + (1 : Int32)) ) else (if (sp_X6_of N Z v3 (7 : Int32)) = 0 then (lp4_X6_sumOf N Z x1 n (v2 + (1 : Int32)) (v3 + (1 : Int32)) ) else (lp4_X6_sumOf N Z x1 n (v2 + (0 : Int32)) (v3 + (1 : Int32)) ))))))
theorem lp4_X6_sumOf_s (N : Nat → Int32) (Z : Nat → Nat → Int32) (x1 : Int32) (n : Nat) (v2 : Int32) (v3 : Int32)  : lp4_X6_sumOf N Z x1 (n + 1) v2 v3 = if (N 0) ≤ v3 then (v2) else (if (sp_X6_of N Z v3 (6 : Int32)) = (-1 : Int32) then (if x1 = (5 : Int32) then (lp4_X6_sumOf N Z x1 n (v2 + (sp_X6_of N Z v3 (7 : Int32))) (v3 + (1 : Int32)) ) else (if x1 = (6 : Int32) then (lp4_X6_sumOf N Z x1 n (v2 + (sp_X6_of N Z v3 (8 : Int32))) (v3 + (1 : Int32)) ) else (lp4_X6_sumOf N Z x1 n (v2 + (0 : Int32)) (v3 + (1 : Int32)) ))) else (if x1 = (5 : Int32) then (lp4_X6_sumOf N Z x1 n (v2 + (sp_X6_of N Z v3 (7 : Int32))) (v3 + (1 : Int32)) ) else (if x1 = (6 : Int32) then (lp4_X6_sumOf N Z x1 n (v2 + (sp_X6_of N Z v3 (8 : Int32))) (v3 + (1 : Int32)) ) else (if x1 = (1 : Int32) then (lp4_X6_sumOf N Z x1 n (v2 + (1 : Int32)) (v3 + (1 : Int32)) ) else (if (sp_X6_of N Z v3 (7 : Int32)) = 0 then (lp4_X6_sumOf N Z x1 n (v2 + (1 : Int32)) (v3 + (1 : Int32)) ) else (lp4_X6_sumOf N Z x1 n (v2 + (0 : Int32)) (v3 + (1 : Int32)) )))))) := rfl
def sp_X6_sumOf (N : Nat → Int32) (Z : Nat → Nat → Int32) (x1 : Int32) : Int32 :=
  lp4_X6_sumOf N Z x1 21 (0 : Int32) (0 : Int32) 
set_option maxHeartbeats 4000000 in
set_option maxRecDepth 100000 in
theorem c_X6_sumOf (l : Launch) (D : va_G) (cI cC cW : ClassId) (t : Nat → Nat) (a : Nat → Nat) (N : Nat → Int32) (Z : Nat → Nat → Int32) (x1 : Int32) (hsf : sfN N) : Met l yX6_sumOf wsX6_sumOf ({ frames := 1, cells := 0, slots := 0, locals := 22 }) (va_Pc [.ref (a 0), .int x1] (roP D (tyL cI cC cW) (md cI a N Z) t)) (vp_Si (fun r => r = sp_X6_sumOf N Z x1)) 0 0 (fun _ => False) := by
  refine Met.ofW (cc := cX6_sumOf) (maxL := 5) (ret := (some .int)) (by decide) rfl ?_
  intro p e s m args below meth c s₁ B hml hv
  obtain ⟨rfl, hP, hK, hX⟩ := hv
  have hx := B.exec
  have hb := B.bytes
  have hr := B.returns
  have hts := atoms_spec (ws := wsX6_sumOf) B.pre
  have hown : s.vm.findClass RX6 = some m.cls := findClass_of_methodNamed B.named
  have hlocks := B.notSynchronized
  have hS : va_S (fun _ => False) s.heap s.heap [] := va_S.rf
  have wd1 : (Cond.fieldLink RX6 7 "PickSlotsModel" "now" "[I").before [.ref (a 0), .int x1].toArray s = true := hts _ (List.mem_of_getElem? (i := 1) rfl)
  have hi6 : ∀ w ∈ wsX60, w ∈ wsX6_sumOf := fun w h => List.mem_cons_of_mem _ (List.mem_append_right _ (h))
  have CF : CallFix p m c cX6_sumOf 5 s [.ref (a 0), .int x1].toArray wsX6_sumOf RX6 := ⟨hx, hb, hml, hown, hts⟩
  have hl := lv_entry ([.ref (a 0), .int x1]) (n := 5) (Nat.le_of_ble_eq_true rfl)
  rw [lg_entry_eq]
  generalize (lg_sl ([.ref (a 0), .int x1]) ++ List.replicate (5 - (lg_sl ([.ref (a 0), .int x1])).length) Slot.unset).toArray = ls at hl ⊢
  have hl : lv_has ls 5 [(0, .ref (a 0)), (1, .int x1)] := hl
  refine lv_iconst (v := 0) hx hb dX6_sumOf_0 (by decide) ?_
  refine lv_istore_n (lv' := [(2, .int _), (0, .ref _), (1, .int _)]) hx hb dX6_sumOf_1 rfl hl (by decide) rfl (fun ls hl => ?_)
  refine lv_iconst (v := 0) hx hb dX6_sumOf_2 (by decide) ?_
  refine lv_istore_n (lv' := [(3, .int _), (2, .int _), (0, .ref _), (1, .int _)]) hx hb dX6_sumOf_3 rfl hl (by decide) rfl (fun ls hl => ?_)
  have L4 : ∀ (n4 : Nat) (v2 v3 : Int32), (0 ≤ v3.toInt) → (v3.toInt ≤ (N 0).toInt) → ((N 0).toInt - v3.toInt < (n4 : Int)) → sp_X6_sumOf N Z x1 = lp4_X6_sumOf N Z x1 (n4) v2 v3  → ∀ (ls : Array Slot), lv_has ls 5 [(2, .int v2), (3, .int v3), (0, .ref (a 0)), (1, .int x1)] → W p l e (headSpec wsX6_sumOf ({ frames := 1, cells := 0, slots := 0, locals := 22 } : Room)).room s m [.ref (a 0), .int x1].toArray below meth c s.heap [] 0 0 (MQ below (vp_Si (fun r => r = sp_X6_sumOf N Z x1)) [.ref (a 0), .int x1].toArray s 0 0 (fun _ => False)) (F0 m 4 ls []) := by
    intro n4
    induction n4 with
    | zero => intro v2 v3  i1 i2 im; exfalso; omega
    | succ n4 ih4 =>
      intro v2 v3  i1 i2 im hsp4 ls hl
      refine lv_iload_n hx hb dX6_sumOf_4 rfl (lv_at hl 1 rfl) ?_
      refine lv_aload_n hx hb dX6_sumOf_5 rfl (lv_at hl 2 rfl) ?_
      refine va_get (D := D) (ci := 5) (C := RX6) (T := TX6) (N := 17) hx hb hts hi6 hown hK hP 0 md_0 rfl 0 (by decide) wd1 (fun _ h9 => h9) rfl dX6_sumOf_6 ?_
      refine lv_iconst (v := 0) hx hb dX6_sumOf_9 (by decide) ?_
      refine my_ialdK (k := 0) hx hb hK hP 1 0 md_1 rfl (by decide) (by first | (with_reducible first | assumption | exact m20 (by assumption) (by assumption) | exact ga20 (by assumption) (by assumption) | exact w2 (by assumption) | exact w2 (min4 (by assumption)) | exact w2 (s46 (by assumption)) | exact min4 (by assumption) | exact s46 (by assumption) | exact min11 (by assumption) (by assumption)) | (unfold vp_in; decide) | ((with_reducible (repeat (first | assumption | (refine sf_lays ?_ ?_ ?_; (with_reducible first | assumption | exact m20 (by assumption) (by assumption) | exact ga20 (by assumption) (by assumption)); (with_reducible first | exact v11_0 | exact v11_1 | exact v11_6 | exact v11_7 | exact v11_8 | exact v11_9 | exact v11_10 | exact w2 (by assumption) | exact w2 (min4 (by assumption)))) | (refine sf_adds ?_ ?_; (with_reducible first | exact v8_0 | exact v8_1 | exact v8_2 | exact v8_3 | exact v8_4 | exact v8_5 | exact v8_6 | exact v8_7)) | (refine sf_u (by omega) ?_)))); done)) dX6_sumOf_10 ?_
      refine lv_icmp_ge (tgt := 97) hx hb dX6_sumOf_11 (by decide) (fun c11 => ?_) (fun c11 => ?_)
      · refine lv_iload_n hx hb dX6_sumOf_97 rfl (lv_at hl 0 rfl) ?_
        exact ro_ret hx hb hr (Eq.trans hsp4 (Eq.trans (lp4_X6_sumOf_s _ _ _ _ _ _) (Eq.trans (if_pos c11) (rfl)))) dX6_sumOf_98 hlocks
      · have hv : vp_in v3 20 := cnin20 hsf i1 c11
        refine lv_aload_n hx hb dX6_sumOf_14 rfl (lv_at hl 2 rfl) ?_
        refine lv_iload_n hx hb dX6_sumOf_15 rfl (lv_at hl 1 rfl) ?_
        refine lv_bipush (v := 6) hx hb dX6_sumOf_16 (by decide) ?_
        refine roV CF (c_X6_of l D cI cC cW t _ _ _ _ _ (by first | (with_reducible first | assumption | exact m20 (by assumption) (by assumption) | exact ga20 (by assumption) (by assumption) | exact w2 (by assumption) | exact w2 (min4 (by assumption)) | exact w2 (s46 (by assumption)) | exact min4 (by assumption) | exact s46 (by assumption) | exact min11 (by assumption) (by assumption)) | (unfold vp_in; decide) | ((with_reducible (repeat (first | assumption | (refine sf_lays ?_ ?_ ?_; (with_reducible first | assumption | exact m20 (by assumption) (by assumption) | exact ga20 (by assumption) (by assumption)); (with_reducible first | exact v11_0 | exact v11_1 | exact v11_6 | exact v11_7 | exact v11_8 | exact v11_9 | exact v11_10 | exact w2 (by assumption) | exact w2 (min4 (by assumption)))) | (refine sf_adds ?_ ?_; (with_reducible first | exact v8_0 | exact v8_1 | exact v8_2 | exact v8_3 | exact v8_4 | exact v8_5 | exact v8_6 | exact v8_7)) | (refine sf_u (by omega) ?_)))); done)) (by first | (with_reducible first | assumption | exact m20 (by assumption) (by assumption) | exact ga20 (by assumption) (by assumption) | exact w2 (by assumption) | exact w2 (min4 (by assumption)) | exact w2 (s46 (by assumption)) | exact min4 (by assumption) | exact s46 (by assumption) | exact min11 (by assumption) (by assumption)) | (unfold vp_in; decide) | ((with_reducible (repeat (first | assumption | (refine sf_lays ?_ ?_ ?_; (with_reducible first | assumption | exact m20 (by assumption) (by assumption) | exact ga20 (by assumption) (by assumption)); (with_reducible first | exact v11_0 | exact v11_1 | exact v11_6 | exact v11_7 | exact v11_8 | exact v11_9 | exact v11_10 | exact w2 (by assumption) | exact w2 (min4 (by assumption)))) | (refine sf_adds ?_ ?_; (with_reducible first | exact v8_0 | exact v8_1 | exact v8_2 | exact v8_3 | exact v8_4 | exact v8_5 | exact v8_6 | exact v8_7)) | (refine sf_u (by omega) ?_)))); done))) (cwV 2 hts gX6_sumOf_X6_of rfl rfl rfl (by decide +kernel) ⟨Nat.le_of_ble_eq_true rfl, Nat.le_of_ble_eq_true rfl⟩) hP hK hX hS 0 5 md_0 rfl rfl hl.1 rfl (Nat.le_of_ble_eq_true rfl) dX6_sumOf_18 ⟨Nat.zero_le _, Nat.zero_le _⟩ ?_
        refine lv_iconst (v := -1) hx hb dX6_sumOf_21 (by decide) ?_
        refine lv_icmp_eq (tgt := 29) hx hb dX6_sumOf_22 (by decide) (fun c22 => ?_) (fun c22 => ?_)
        · refine lv_iconst (v := 0) hx hb dX6_sumOf_29 (by decide) ?_
          refine lv_istore (lv' := [(4, .int _), (2, .int _), (3, .int _), (0, .ref _), (1, .int _)]) hx hb dX6_sumOf_30 hl (by decide) rfl (fun ls hl => ?_)
          refine lv_iload_n hx hb dX6_sumOf_32 rfl (lv_at hl 1 rfl) ?_
          refine lv_iload_n hx hb dX6_sumOf_33 rfl (lv_at hl 4 rfl) ?_
          refine lv_iconst (v := 5) hx hb dX6_sumOf_34 (by decide) ?_
          refine lv_icmp_ne (tgt := 48) hx hb dX6_sumOf_35 (by decide) (fun c35 => ?_) (fun c35 => ?_)
          · refine lv_iload_n hx hb dX6_sumOf_48 rfl (lv_at hl 4 rfl) ?_
            refine lv_bipush (v := 6) hx hb dX6_sumOf_49 (by decide) ?_
            refine lv_icmp_ne (tgt := 64) hx hb dX6_sumOf_51 (by decide) (fun c51 => ?_) (fun c51 => ?_)
            · refine lv_iload hx hb dX6_sumOf_64 (lv_at hl 0 rfl) ?_
              refine lv_if_eq (tgt := 88) hx hb dX6_sumOf_66 (by decide) (fun _ => ?_) (fun c9 => absurd (by decide) c9)
              refine lv_iconst (v := 0) hx hb dX6_sumOf_88 (by decide) ?_
              refine lv_iadd hx hb dX6_sumOf_89 ?_
              refine lv_istore_n (lv' := [(2, .int _), (4, .int _), (3, .int _), (0, .ref _), (1, .int _)]) hx hb dX6_sumOf_90 rfl hl (by decide) rfl (fun ls hl => ?_)
              refine lv_iinc (v := _ + (1 : Int32)) (lv' := [(3, .int _), (2, .int _), (4, .int _), (0, .ref _), (1, .int _)]) hx hb dX6_sumOf_91 hl (k := 2) rfl rfl (by decide) rfl (fun ls hl => ?_)
              refine lv_goto (tgt := 4) hx hb dX6_sumOf_94 (by decide) ?_
              exact ih4 _ _ (cs1 i1 c11) (cs2 c11) (csm c11 im) (Eq.trans hsp4 (Eq.trans (lp4_X6_sumOf_s _ _ _ _ _ _) (Eq.trans (if_neg c11) (Eq.trans (if_pos c22) (Eq.trans (if_neg c35) (Eq.trans (if_neg c51) (rfl))))))) _ (lv_sub hl [1, 0, 3, 4] rfl)
            · refine lv_aload_n hx hb dX6_sumOf_54 rfl (lv_at hl 3 rfl) ?_
              refine lv_iload_n hx hb dX6_sumOf_55 rfl (lv_at hl 2 rfl) ?_
              refine lv_bipush (v := 8) hx hb dX6_sumOf_56 (by decide) ?_
              refine roV CF (c_X6_of l D cI cC cW t _ _ _ _ _ (by first | (with_reducible first | assumption | exact m20 (by assumption) (by assumption) | exact ga20 (by assumption) (by assumption) | exact w2 (by assumption) | exact w2 (min4 (by assumption)) | exact w2 (s46 (by assumption)) | exact min4 (by assumption) | exact s46 (by assumption) | exact min11 (by assumption) (by assumption)) | (unfold vp_in; decide) | ((with_reducible (repeat (first | assumption | (refine sf_lays ?_ ?_ ?_; (with_reducible first | assumption | exact m20 (by assumption) (by assumption) | exact ga20 (by assumption) (by assumption)); (with_reducible first | exact v11_0 | exact v11_1 | exact v11_6 | exact v11_7 | exact v11_8 | exact v11_9 | exact v11_10 | exact w2 (by assumption) | exact w2 (min4 (by assumption)))) | (refine sf_adds ?_ ?_; (with_reducible first | exact v8_0 | exact v8_1 | exact v8_2 | exact v8_3 | exact v8_4 | exact v8_5 | exact v8_6 | exact v8_7)) | (refine sf_u (by omega) ?_)))); done)) (by first | (with_reducible first | assumption | exact m20 (by assumption) (by assumption) | exact ga20 (by assumption) (by assumption) | exact w2 (by assumption) | exact w2 (min4 (by assumption)) | exact w2 (s46 (by assumption)) | exact min4 (by assumption) | exact s46 (by assumption) | exact min11 (by assumption) (by assumption)) | (unfold vp_in; decide) | ((with_reducible (repeat (first | assumption | (refine sf_lays ?_ ?_ ?_; (with_reducible first | assumption | exact m20 (by assumption) (by assumption) | exact ga20 (by assumption) (by assumption)); (with_reducible first | exact v11_0 | exact v11_1 | exact v11_6 | exact v11_7 | exact v11_8 | exact v11_9 | exact v11_10 | exact w2 (by assumption) | exact w2 (min4 (by assumption)))) | (refine sf_adds ?_ ?_; (with_reducible first | exact v8_0 | exact v8_1 | exact v8_2 | exact v8_3 | exact v8_4 | exact v8_5 | exact v8_6 | exact v8_7)) | (refine sf_u (by omega) ?_)))); done))) (cwV 2 hts gX6_sumOf_X6_of rfl rfl rfl (by decide +kernel) ⟨Nat.le_of_ble_eq_true rfl, Nat.le_of_ble_eq_true rfl⟩) hP hK hX hS 0 5 md_0 rfl rfl hl.1 rfl (Nat.le_of_ble_eq_true rfl) dX6_sumOf_58 ⟨Nat.zero_le _, Nat.zero_le _⟩ ?_
              refine lv_goto (tgt := 89) hx hb dX6_sumOf_61 (by decide) ?_
              refine lv_iadd hx hb dX6_sumOf_89 ?_
              refine lv_istore_n (lv' := [(2, .int _), (4, .int _), (3, .int _), (0, .ref _), (1, .int _)]) hx hb dX6_sumOf_90 rfl hl (by decide) rfl (fun ls hl => ?_)
              refine lv_iinc (v := _ + (1 : Int32)) (lv' := [(3, .int _), (2, .int _), (4, .int _), (0, .ref _), (1, .int _)]) hx hb dX6_sumOf_91 hl (k := 2) rfl rfl (by decide) rfl (fun ls hl => ?_)
              refine lv_goto (tgt := 4) hx hb dX6_sumOf_94 (by decide) ?_
              exact ih4 _ _ (cs1 i1 c11) (cs2 c11) (csm c11 im) (Eq.trans hsp4 (Eq.trans (lp4_X6_sumOf_s _ _ _ _ _ _) (Eq.trans (if_neg c11) (Eq.trans (if_pos c22) (Eq.trans (if_neg c35) (Eq.trans (if_pos c51) (rfl))))))) _ (lv_sub hl [1, 0, 3, 4] rfl)
          · refine lv_aload_n hx hb dX6_sumOf_38 rfl (lv_at hl 3 rfl) ?_
            refine lv_iload_n hx hb dX6_sumOf_39 rfl (lv_at hl 2 rfl) ?_
            refine lv_bipush (v := 7) hx hb dX6_sumOf_40 (by decide) ?_
            refine roV CF (c_X6_of l D cI cC cW t _ _ _ _ _ (by first | (with_reducible first | assumption | exact m20 (by assumption) (by assumption) | exact ga20 (by assumption) (by assumption) | exact w2 (by assumption) | exact w2 (min4 (by assumption)) | exact w2 (s46 (by assumption)) | exact min4 (by assumption) | exact s46 (by assumption) | exact min11 (by assumption) (by assumption)) | (unfold vp_in; decide) | ((with_reducible (repeat (first | assumption | (refine sf_lays ?_ ?_ ?_; (with_reducible first | assumption | exact m20 (by assumption) (by assumption) | exact ga20 (by assumption) (by assumption)); (with_reducible first | exact v11_0 | exact v11_1 | exact v11_6 | exact v11_7 | exact v11_8 | exact v11_9 | exact v11_10 | exact w2 (by assumption) | exact w2 (min4 (by assumption)))) | (refine sf_adds ?_ ?_; (with_reducible first | exact v8_0 | exact v8_1 | exact v8_2 | exact v8_3 | exact v8_4 | exact v8_5 | exact v8_6 | exact v8_7)) | (refine sf_u (by omega) ?_)))); done)) (by first | (with_reducible first | assumption | exact m20 (by assumption) (by assumption) | exact ga20 (by assumption) (by assumption) | exact w2 (by assumption) | exact w2 (min4 (by assumption)) | exact w2 (s46 (by assumption)) | exact min4 (by assumption) | exact s46 (by assumption) | exact min11 (by assumption) (by assumption)) | (unfold vp_in; decide) | ((with_reducible (repeat (first | assumption | (refine sf_lays ?_ ?_ ?_; (with_reducible first | assumption | exact m20 (by assumption) (by assumption) | exact ga20 (by assumption) (by assumption)); (with_reducible first | exact v11_0 | exact v11_1 | exact v11_6 | exact v11_7 | exact v11_8 | exact v11_9 | exact v11_10 | exact w2 (by assumption) | exact w2 (min4 (by assumption)))) | (refine sf_adds ?_ ?_; (with_reducible first | exact v8_0 | exact v8_1 | exact v8_2 | exact v8_3 | exact v8_4 | exact v8_5 | exact v8_6 | exact v8_7)) | (refine sf_u (by omega) ?_)))); done))) (cwV 2 hts gX6_sumOf_X6_of rfl rfl rfl (by decide +kernel) ⟨Nat.le_of_ble_eq_true rfl, Nat.le_of_ble_eq_true rfl⟩) hP hK hX hS 0 5 md_0 rfl rfl hl.1 rfl (Nat.le_of_ble_eq_true rfl) dX6_sumOf_42 ⟨Nat.zero_le _, Nat.zero_le _⟩ ?_
            refine lv_goto (tgt := 89) hx hb dX6_sumOf_45 (by decide) ?_
            refine lv_iadd hx hb dX6_sumOf_89 ?_
            refine lv_istore_n (lv' := [(2, .int _), (4, .int _), (3, .int _), (0, .ref _), (1, .int _)]) hx hb dX6_sumOf_90 rfl hl (by decide) rfl (fun ls hl => ?_)
            refine lv_iinc (v := _ + (1 : Int32)) (lv' := [(3, .int _), (2, .int _), (4, .int _), (0, .ref _), (1, .int _)]) hx hb dX6_sumOf_91 hl (k := 2) rfl rfl (by decide) rfl (fun ls hl => ?_)
            refine lv_goto (tgt := 4) hx hb dX6_sumOf_94 (by decide) ?_
            exact ih4 _ _ (cs1 i1 c11) (cs2 c11) (csm c11 im) (Eq.trans hsp4 (Eq.trans (lp4_X6_sumOf_s _ _ _ _ _ _) (Eq.trans (if_neg c11) (Eq.trans (if_pos c22) (Eq.trans (if_pos c35) (rfl)))))) _ (lv_sub hl [1, 0, 3, 4] rfl)
        · refine lv_iconst (v := 1) hx hb dX6_sumOf_25 (by decide) ?_
          refine lv_goto (tgt := 30) hx hb dX6_sumOf_26 (by decide) ?_
          refine lv_istore (lv' := [(4, .int _), (2, .int _), (3, .int _), (0, .ref _), (1, .int _)]) hx hb dX6_sumOf_30 hl (by decide) rfl (fun ls hl => ?_)
          refine lv_iload_n hx hb dX6_sumOf_32 rfl (lv_at hl 1 rfl) ?_
          refine lv_iload_n hx hb dX6_sumOf_33 rfl (lv_at hl 4 rfl) ?_
          refine lv_iconst (v := 5) hx hb dX6_sumOf_34 (by decide) ?_
          refine lv_icmp_ne (tgt := 48) hx hb dX6_sumOf_35 (by decide) (fun c35 => ?_) (fun c35 => ?_)
          · refine lv_iload_n hx hb dX6_sumOf_48 rfl (lv_at hl 4 rfl) ?_
            refine lv_bipush (v := 6) hx hb dX6_sumOf_49 (by decide) ?_
            refine lv_icmp_ne (tgt := 64) hx hb dX6_sumOf_51 (by decide) (fun c51 => ?_) (fun c51 => ?_)
            · refine lv_iload hx hb dX6_sumOf_64 (lv_at hl 0 rfl) ?_
              refine lv_if_eq (tgt := 88) hx hb dX6_sumOf_66 (by decide) (fun c9 => absurd c9 (by decide)) (fun _ => ?_)
              refine lv_iload_n hx hb dX6_sumOf_69 rfl (lv_at hl 4 rfl) ?_
              refine lv_iconst (v := 1) hx hb dX6_sumOf_70 (by decide) ?_
              refine lv_icmp_eq (tgt := 84) hx hb dX6_sumOf_71 (by decide) (fun c71 => ?_) (fun c71 => ?_)
              · refine lv_iconst (v := 1) hx hb dX6_sumOf_84 (by decide) ?_
                refine lv_goto (tgt := 89) hx hb dX6_sumOf_85 (by decide) ?_
                refine lv_iadd hx hb dX6_sumOf_89 ?_
                refine lv_istore_n (lv' := [(2, .int _), (4, .int _), (3, .int _), (0, .ref _), (1, .int _)]) hx hb dX6_sumOf_90 rfl hl (by decide) rfl (fun ls hl => ?_)
                refine lv_iinc (v := _ + (1 : Int32)) (lv' := [(3, .int _), (2, .int _), (4, .int _), (0, .ref _), (1, .int _)]) hx hb dX6_sumOf_91 hl (k := 2) rfl rfl (by decide) rfl (fun ls hl => ?_)
                refine lv_goto (tgt := 4) hx hb dX6_sumOf_94 (by decide) ?_
                exact ih4 _ _ (cs1 i1 c11) (cs2 c11) (csm c11 im) (Eq.trans hsp4 (Eq.trans (lp4_X6_sumOf_s _ _ _ _ _ _) (Eq.trans (if_neg c11) (Eq.trans (if_neg c22) (Eq.trans (if_neg c35) (Eq.trans (if_neg c51) (Eq.trans (if_pos c71) (rfl)))))))) _ (lv_sub hl [1, 0, 3, 4] rfl)
              · refine lv_aload_n hx hb dX6_sumOf_74 rfl (lv_at hl 3 rfl) ?_
                refine lv_iload_n hx hb dX6_sumOf_75 rfl (lv_at hl 2 rfl) ?_
                refine lv_bipush (v := 7) hx hb dX6_sumOf_76 (by decide) ?_
                refine roV CF (c_X6_of l D cI cC cW t _ _ _ _ _ (by first | (with_reducible first | assumption | exact m20 (by assumption) (by assumption) | exact ga20 (by assumption) (by assumption) | exact w2 (by assumption) | exact w2 (min4 (by assumption)) | exact w2 (s46 (by assumption)) | exact min4 (by assumption) | exact s46 (by assumption) | exact min11 (by assumption) (by assumption)) | (unfold vp_in; decide) | ((with_reducible (repeat (first | assumption | (refine sf_lays ?_ ?_ ?_; (with_reducible first | assumption | exact m20 (by assumption) (by assumption) | exact ga20 (by assumption) (by assumption)); (with_reducible first | exact v11_0 | exact v11_1 | exact v11_6 | exact v11_7 | exact v11_8 | exact v11_9 | exact v11_10 | exact w2 (by assumption) | exact w2 (min4 (by assumption)))) | (refine sf_adds ?_ ?_; (with_reducible first | exact v8_0 | exact v8_1 | exact v8_2 | exact v8_3 | exact v8_4 | exact v8_5 | exact v8_6 | exact v8_7)) | (refine sf_u (by omega) ?_)))); done)) (by first | (with_reducible first | assumption | exact m20 (by assumption) (by assumption) | exact ga20 (by assumption) (by assumption) | exact w2 (by assumption) | exact w2 (min4 (by assumption)) | exact w2 (s46 (by assumption)) | exact min4 (by assumption) | exact s46 (by assumption) | exact min11 (by assumption) (by assumption)) | (unfold vp_in; decide) | ((with_reducible (repeat (first | assumption | (refine sf_lays ?_ ?_ ?_; (with_reducible first | assumption | exact m20 (by assumption) (by assumption) | exact ga20 (by assumption) (by assumption)); (with_reducible first | exact v11_0 | exact v11_1 | exact v11_6 | exact v11_7 | exact v11_8 | exact v11_9 | exact v11_10 | exact w2 (by assumption) | exact w2 (min4 (by assumption)))) | (refine sf_adds ?_ ?_; (with_reducible first | exact v8_0 | exact v8_1 | exact v8_2 | exact v8_3 | exact v8_4 | exact v8_5 | exact v8_6 | exact v8_7)) | (refine sf_u (by omega) ?_)))); done))) (cwV 2 hts gX6_sumOf_X6_of rfl rfl rfl (by decide +kernel) ⟨Nat.le_of_ble_eq_true rfl, Nat.le_of_ble_eq_true rfl⟩) hP hK hX hS 0 5 md_0 rfl rfl hl.1 rfl (Nat.le_of_ble_eq_true rfl) dX6_sumOf_78 ⟨Nat.zero_le _, Nat.zero_le _⟩ ?_
                refine lv_if_ne (tgt := 88) hx hb dX6_sumOf_81 (by decide) (fun c81 => ?_) (fun c81 => ?_)
                · refine lv_iconst (v := 0) hx hb dX6_sumOf_88 (by decide) ?_
                  refine lv_iadd hx hb dX6_sumOf_89 ?_
                  refine lv_istore_n (lv' := [(2, .int _), (4, .int _), (3, .int _), (0, .ref _), (1, .int _)]) hx hb dX6_sumOf_90 rfl hl (by decide) rfl (fun ls hl => ?_)
                  refine lv_iinc (v := _ + (1 : Int32)) (lv' := [(3, .int _), (2, .int _), (4, .int _), (0, .ref _), (1, .int _)]) hx hb dX6_sumOf_91 hl (k := 2) rfl rfl (by decide) rfl (fun ls hl => ?_)
                  refine lv_goto (tgt := 4) hx hb dX6_sumOf_94 (by decide) ?_
                  exact ih4 _ _ (cs1 i1 c11) (cs2 c11) (csm c11 im) (Eq.trans hsp4 (Eq.trans (lp4_X6_sumOf_s _ _ _ _ _ _) (Eq.trans (if_neg c11) (Eq.trans (if_neg c22) (Eq.trans (if_neg c35) (Eq.trans (if_neg c51) (Eq.trans (if_neg c71) (Eq.trans (if_neg c81) (rfl))))))))) _ (lv_sub hl [1, 0, 3, 4] rfl)
                · refine lv_iconst (v := 1) hx hb dX6_sumOf_84 (by decide) ?_
                  refine lv_goto (tgt := 89) hx hb dX6_sumOf_85 (by decide) ?_
                  refine lv_iadd hx hb dX6_sumOf_89 ?_
                  refine lv_istore_n (lv' := [(2, .int _), (4, .int _), (3, .int _), (0, .ref _), (1, .int _)]) hx hb dX6_sumOf_90 rfl hl (by decide) rfl (fun ls hl => ?_)
                  refine lv_iinc (v := _ + (1 : Int32)) (lv' := [(3, .int _), (2, .int _), (4, .int _), (0, .ref _), (1, .int _)]) hx hb dX6_sumOf_91 hl (k := 2) rfl rfl (by decide) rfl (fun ls hl => ?_)
                  refine lv_goto (tgt := 4) hx hb dX6_sumOf_94 (by decide) ?_
                  exact ih4 _ _ (cs1 i1 c11) (cs2 c11) (csm c11 im) (Eq.trans hsp4 (Eq.trans (lp4_X6_sumOf_s _ _ _ _ _ _) (Eq.trans (if_neg c11) (Eq.trans (if_neg c22) (Eq.trans (if_neg c35) (Eq.trans (if_neg c51) (Eq.trans (if_neg c71) (Eq.trans (if_pos c81) (rfl))))))))) _ (lv_sub hl [1, 0, 3, 4] rfl)
            · refine lv_aload_n hx hb dX6_sumOf_54 rfl (lv_at hl 3 rfl) ?_
              refine lv_iload_n hx hb dX6_sumOf_55 rfl (lv_at hl 2 rfl) ?_
              refine lv_bipush (v := 8) hx hb dX6_sumOf_56 (by decide) ?_
              refine roV CF (c_X6_of l D cI cC cW t _ _ _ _ _ (by first | (with_reducible first | assumption | exact m20 (by assumption) (by assumption) | exact ga20 (by assumption) (by assumption) | exact w2 (by assumption) | exact w2 (min4 (by assumption)) | exact w2 (s46 (by assumption)) | exact min4 (by assumption) | exact s46 (by assumption) | exact min11 (by assumption) (by assumption)) | (unfold vp_in; decide) | ((with_reducible (repeat (first | assumption | (refine sf_lays ?_ ?_ ?_; (with_reducible first | assumption | exact m20 (by assumption) (by assumption) | exact ga20 (by assumption) (by assumption)); (with_reducible first | exact v11_0 | exact v11_1 | exact v11_6 | exact v11_7 | exact v11_8 | exact v11_9 | exact v11_10 | exact w2 (by assumption) | exact w2 (min4 (by assumption)))) | (refine sf_adds ?_ ?_; (with_reducible first | exact v8_0 | exact v8_1 | exact v8_2 | exact v8_3 | exact v8_4 | exact v8_5 | exact v8_6 | exact v8_7)) | (refine sf_u (by omega) ?_)))); done)) (by first | (with_reducible first | assumption | exact m20 (by assumption) (by assumption) | exact ga20 (by assumption) (by assumption) | exact w2 (by assumption) | exact w2 (min4 (by assumption)) | exact w2 (s46 (by assumption)) | exact min4 (by assumption) | exact s46 (by assumption) | exact min11 (by assumption) (by assumption)) | (unfold vp_in; decide) | ((with_reducible (repeat (first | assumption | (refine sf_lays ?_ ?_ ?_; (with_reducible first | assumption | exact m20 (by assumption) (by assumption) | exact ga20 (by assumption) (by assumption)); (with_reducible first | exact v11_0 | exact v11_1 | exact v11_6 | exact v11_7 | exact v11_8 | exact v11_9 | exact v11_10 | exact w2 (by assumption) | exact w2 (min4 (by assumption)))) | (refine sf_adds ?_ ?_; (with_reducible first | exact v8_0 | exact v8_1 | exact v8_2 | exact v8_3 | exact v8_4 | exact v8_5 | exact v8_6 | exact v8_7)) | (refine sf_u (by omega) ?_)))); done))) (cwV 2 hts gX6_sumOf_X6_of rfl rfl rfl (by decide +kernel) ⟨Nat.le_of_ble_eq_true rfl, Nat.le_of_ble_eq_true rfl⟩) hP hK hX hS 0 5 md_0 rfl rfl hl.1 rfl (Nat.le_of_ble_eq_true rfl) dX6_sumOf_58 ⟨Nat.zero_le _, Nat.zero_le _⟩ ?_
              refine lv_goto (tgt := 89) hx hb dX6_sumOf_61 (by decide) ?_
              refine lv_iadd hx hb dX6_sumOf_89 ?_
              refine lv_istore_n (lv' := [(2, .int _), (4, .int _), (3, .int _), (0, .ref _), (1, .int _)]) hx hb dX6_sumOf_90 rfl hl (by decide) rfl (fun ls hl => ?_)
              refine lv_iinc (v := _ + (1 : Int32)) (lv' := [(3, .int _), (2, .int _), (4, .int _), (0, .ref _), (1, .int _)]) hx hb dX6_sumOf_91 hl (k := 2) rfl rfl (by decide) rfl (fun ls hl => ?_)
              refine lv_goto (tgt := 4) hx hb dX6_sumOf_94 (by decide) ?_
              exact ih4 _ _ (cs1 i1 c11) (cs2 c11) (csm c11 im) (Eq.trans hsp4 (Eq.trans (lp4_X6_sumOf_s _ _ _ _ _ _) (Eq.trans (if_neg c11) (Eq.trans (if_neg c22) (Eq.trans (if_neg c35) (Eq.trans (if_pos c51) (rfl))))))) _ (lv_sub hl [1, 0, 3, 4] rfl)
          · refine lv_aload_n hx hb dX6_sumOf_38 rfl (lv_at hl 3 rfl) ?_
            refine lv_iload_n hx hb dX6_sumOf_39 rfl (lv_at hl 2 rfl) ?_
            refine lv_bipush (v := 7) hx hb dX6_sumOf_40 (by decide) ?_
            refine roV CF (c_X6_of l D cI cC cW t _ _ _ _ _ (by first | (with_reducible first | assumption | exact m20 (by assumption) (by assumption) | exact ga20 (by assumption) (by assumption) | exact w2 (by assumption) | exact w2 (min4 (by assumption)) | exact w2 (s46 (by assumption)) | exact min4 (by assumption) | exact s46 (by assumption) | exact min11 (by assumption) (by assumption)) | (unfold vp_in; decide) | ((with_reducible (repeat (first | assumption | (refine sf_lays ?_ ?_ ?_; (with_reducible first | assumption | exact m20 (by assumption) (by assumption) | exact ga20 (by assumption) (by assumption)); (with_reducible first | exact v11_0 | exact v11_1 | exact v11_6 | exact v11_7 | exact v11_8 | exact v11_9 | exact v11_10 | exact w2 (by assumption) | exact w2 (min4 (by assumption)))) | (refine sf_adds ?_ ?_; (with_reducible first | exact v8_0 | exact v8_1 | exact v8_2 | exact v8_3 | exact v8_4 | exact v8_5 | exact v8_6 | exact v8_7)) | (refine sf_u (by omega) ?_)))); done)) (by first | (with_reducible first | assumption | exact m20 (by assumption) (by assumption) | exact ga20 (by assumption) (by assumption) | exact w2 (by assumption) | exact w2 (min4 (by assumption)) | exact w2 (s46 (by assumption)) | exact min4 (by assumption) | exact s46 (by assumption) | exact min11 (by assumption) (by assumption)) | (unfold vp_in; decide) | ((with_reducible (repeat (first | assumption | (refine sf_lays ?_ ?_ ?_; (with_reducible first | assumption | exact m20 (by assumption) (by assumption) | exact ga20 (by assumption) (by assumption)); (with_reducible first | exact v11_0 | exact v11_1 | exact v11_6 | exact v11_7 | exact v11_8 | exact v11_9 | exact v11_10 | exact w2 (by assumption) | exact w2 (min4 (by assumption)))) | (refine sf_adds ?_ ?_; (with_reducible first | exact v8_0 | exact v8_1 | exact v8_2 | exact v8_3 | exact v8_4 | exact v8_5 | exact v8_6 | exact v8_7)) | (refine sf_u (by omega) ?_)))); done))) (cwV 2 hts gX6_sumOf_X6_of rfl rfl rfl (by decide +kernel) ⟨Nat.le_of_ble_eq_true rfl, Nat.le_of_ble_eq_true rfl⟩) hP hK hX hS 0 5 md_0 rfl rfl hl.1 rfl (Nat.le_of_ble_eq_true rfl) dX6_sumOf_42 ⟨Nat.zero_le _, Nat.zero_le _⟩ ?_
            refine lv_goto (tgt := 89) hx hb dX6_sumOf_45 (by decide) ?_
            refine lv_iadd hx hb dX6_sumOf_89 ?_
            refine lv_istore_n (lv' := [(2, .int _), (4, .int _), (3, .int _), (0, .ref _), (1, .int _)]) hx hb dX6_sumOf_90 rfl hl (by decide) rfl (fun ls hl => ?_)
            refine lv_iinc (v := _ + (1 : Int32)) (lv' := [(3, .int _), (2, .int _), (4, .int _), (0, .ref _), (1, .int _)]) hx hb dX6_sumOf_91 hl (k := 2) rfl rfl (by decide) rfl (fun ls hl => ?_)
            refine lv_goto (tgt := 4) hx hb dX6_sumOf_94 (by decide) ?_
            exact ih4 _ _ (cs1 i1 c11) (cs2 c11) (csm c11 im) (Eq.trans hsp4 (Eq.trans (lp4_X6_sumOf_s _ _ _ _ _ _) (Eq.trans (if_neg c11) (Eq.trans (if_neg c22) (Eq.trans (if_pos c35) (rfl)))))) _ (lv_sub hl [1, 0, 3, 4] rfl)
  exact L4 21 _ _ (by decide) (cn2 hsf) (cnm hsf) (rfl) _ (lv_sub hl [1, 0, 2, 3] rfl)

def lp13_X6_ends (Z : Nat → Nat → Int32) : Nat → Int32 → Int32 → Int32 → (Nat → Int32) → Nat → Int32
  | 0, v3, v2, v1, Nw => Nw
  | n + 1, v3, v2, v1, Nw => if (Nw 0) ≤ v3 then (let N101 : Nat → Int32 := upd Nw (1) ((Nw 1) + (1 : Int32)); let k105_102 : Nat → Int32 := sp_X6_adds N101 Z (5 : Int32) ((sp_X6_weeklyOf N101 Z (sp_X6_season N101 Z)) - v2); k105_102) else (if ((((3 : Int32) * (sp_X6_of Nw Z v3 ((2 : Int32) + v1))) + (sp_X6_of Nw Z v3 (9 : Int32))) / (4 : Int32)) ≤ (999 : Int32) then (let k66_101 : Nat → Int32 := sp_X6_lays Nw Z v3 ((2 : Int32) + v1) ((((3 : Int32) * (sp_X6_of Nw Z v3 ((2 : Int32) + v1))) + (sp_X6_of Nw Z v3 (9 : Int32))) / (4 : Int32)); let k74_102 : Nat → Int32 := sp_X6_lays k66_101 Z v3 (9 : Int32) (0 : Int32); lp13_X6_ends Z n (v3 + (1 : Int32)) v2 v1 k74_102) else (let k66_101 : Nat → Int32 := sp_X6_lays Nw Z v3 ((2 : Int32) + v1) (999 : Int32); let k74_102 : Nat → Int32 := sp_X6_lays k66_101 Z v3 (9 : Int32) (0 : Int32); lp13_X6_ends Z n (v3 + (1 : Int32)) v2 v1 k74_102))
theorem lp13_X6_ends_s (Z : Nat → Nat → Int32) (n : Nat) (v3 : Int32) (v2 : Int32) (v1 : Int32) (Nw : Nat → Int32) : lp13_X6_ends Z (n + 1) v3 v2 v1 Nw = if (Nw 0) ≤ v3 then (let N101 : Nat → Int32 := upd Nw (1) ((Nw 1) + (1 : Int32)); let k105_102 : Nat → Int32 := sp_X6_adds N101 Z (5 : Int32) ((sp_X6_weeklyOf N101 Z (sp_X6_season N101 Z)) - v2); k105_102) else (if ((((3 : Int32) * (sp_X6_of Nw Z v3 ((2 : Int32) + v1))) + (sp_X6_of Nw Z v3 (9 : Int32))) / (4 : Int32)) ≤ (999 : Int32) then (let k66_101 : Nat → Int32 := sp_X6_lays Nw Z v3 ((2 : Int32) + v1) ((((3 : Int32) * (sp_X6_of Nw Z v3 ((2 : Int32) + v1))) + (sp_X6_of Nw Z v3 (9 : Int32))) / (4 : Int32)); let k74_102 : Nat → Int32 := sp_X6_lays k66_101 Z v3 (9 : Int32) (0 : Int32); lp13_X6_ends Z n (v3 + (1 : Int32)) v2 v1 k74_102) else (let k66_101 : Nat → Int32 := sp_X6_lays Nw Z v3 ((2 : Int32) + v1) (999 : Int32); let k74_102 : Nat → Int32 := sp_X6_lays k66_101 Z v3 (9 : Int32) (0 : Int32); lp13_X6_ends Z n (v3 + (1 : Int32)) v2 v1 k74_102)) := rfl
def sp_X6_ends (N : Nat → Int32) (Z : Nat → Nat → Int32) : Nat → Int32 :=
  lp13_X6_ends Z 21 (0 : Int32) (sp_X6_weeklyOf N Z (sp_X6_season N Z)) (sp_X6_season N Z) N
set_option maxHeartbeats 4000000 in
set_option maxRecDepth 100000 in
theorem c_X6_ends (l : Launch) (D : va_G) (cI cC cW : ClassId) (t : Nat → Nat) (a : Nat → Nat) (sz : Nat) (N : Nat → Int32) (Z : Nat → Nat → Int32) (hsf : sfN N) (hwk0 : N 1 < (1000 : Int32)) : Met l yX6_ends wsX6_ends ({ frames := 3, cells := 0, slots := 0, locals := 64 }) (va_Pc [.ref (a 0)] (rwP D (tyL cI cC cW) (md cI a N Z) t sz)) (va_Qv (fun (u : Nat → Int32) => u = sp_X6_ends N Z) (fun u => rwB D (va_A (md cI a N Z) sz) (md cI a u Z)) (va_A (md cI a N Z) sz)) 0 0 (va_A (md cI a N Z) sz) := by
  refine Met.ofW (cc := cX6_ends) (maxL := 5) (ret := none) (by decide) rfl ?_
  intro p e s m args below meth c s₁ B hml hv
  obtain ⟨rfl, hsz, hP, hK, hD0, hX⟩ := hv
  have hx := B.exec
  have hb := B.bytes
  have hr := B.returns
  have hts := atoms_spec (ws := wsX6_ends) B.pre
  have hown : s.vm.findClass RX6 = some m.cls := findClass_of_methodNamed B.named
  have hlocks := B.notSynchronized
  subst hsz
  have hD := hD0.self (sz := s.heap.size)
  generalize hAe : va_A (md cI a N Z) s.heap.size = A at hD hX ⊢
  have hA : ∀ q : Nat, s.heap.size ≤ q → A q := fun q h => by rw [← hAe]; exact Or.inr h
  have hS : va_S A s.heap s.heap [] := va_S.rf
  have wd1 : (Cond.fieldLink RX6 7 "PickSlotsModel" "now" "[I").before [.ref (a 0)].toArray s = true := hts _ (List.mem_of_getElem? (i := 1) rfl)
  have hi6 : ∀ w ∈ wsX60, w ∈ wsX6_ends := fun w h => List.mem_cons_of_mem _ (List.mem_append_right _ (h))
  have CF : CallFix p m c cX6_ends 5 s [.ref (a 0)].toArray wsX6_ends RX6 := ⟨hx, hb, hml, hown, hts⟩
  have hl := lv_entry ([.ref (a 0)]) (n := 5) (Nat.le_of_ble_eq_true rfl)
  rw [lg_entry_eq]
  generalize (lg_sl ([.ref (a 0)]) ++ List.replicate (5 - (lg_sl ([.ref (a 0)])).length) Slot.unset).toArray = ls at hl ⊢
  have hl : lv_has ls 5 [(0, .ref (a 0))] := hl
  refine lv_aload_n hx hb dX6_ends_0 rfl (lv_at hl 0 rfl) ?_
  refine roV CF (c_X6_season l D cI cC cW t _ _ _  ) (cwV 0 hts gX6_ends_X6_season rfl rfl rfl (by decide +kernel) ⟨Nat.le_of_ble_eq_true rfl, Nat.le_of_ble_eq_true rfl⟩) hP hK hX hS 0 5 md_0 rfl rfl hl.1 rfl (Nat.le_of_ble_eq_true rfl) dX6_ends_1 ⟨Nat.zero_le _, Nat.zero_le _⟩ ?_
  refine lv_istore_n (lv' := [(1, .int _), (0, .ref _)]) hx hb dX6_ends_4 rfl hl (by decide) rfl (fun ls hl => ?_)
  refine lv_aload_n hx hb dX6_ends_5 rfl (lv_at hl 1 rfl) ?_
  refine lv_iload_n hx hb dX6_ends_6 rfl (lv_at hl 0 rfl) ?_
  refine roV CF (c_X6_weeklyOf l D cI cC cW t _ _ _ _ (by first | (with_reducible first | assumption | exact m20 (by assumption) (by assumption) | exact ga20 (by assumption) (by assumption) | exact w2 (by assumption) | exact w2 (min4 (by assumption)) | exact w2 (s46 (by assumption)) | exact min4 (by assumption) | exact s46 (by assumption) | exact min11 (by assumption) (by assumption)) | (unfold vp_in; decide) | ((with_reducible (repeat (first | assumption | (refine sf_lays ?_ ?_ ?_; (with_reducible first | assumption | exact m20 (by assumption) (by assumption) | exact ga20 (by assumption) (by assumption)); (with_reducible first | exact v11_0 | exact v11_1 | exact v11_6 | exact v11_7 | exact v11_8 | exact v11_9 | exact v11_10 | exact w2 (by assumption) | exact w2 (min4 (by assumption)))) | (refine sf_adds ?_ ?_; (with_reducible first | exact v8_0 | exact v8_1 | exact v8_2 | exact v8_3 | exact v8_4 | exact v8_5 | exact v8_6 | exact v8_7)) | (refine sf_u (by omega) ?_)))); done)) (by first | (with_reducible first | assumption | exact m20 (by assumption) (by assumption) | exact ga20 (by assumption) (by assumption) | exact w2 (by assumption) | exact w2 (min4 (by assumption)) | exact w2 (s46 (by assumption)) | exact min4 (by assumption) | exact s46 (by assumption) | exact min11 (by assumption) (by assumption)) | (unfold vp_in; decide) | ((with_reducible (repeat (first | assumption | (refine sf_lays ?_ ?_ ?_; (with_reducible first | assumption | exact m20 (by assumption) (by assumption) | exact ga20 (by assumption) (by assumption)); (with_reducible first | exact v11_0 | exact v11_1 | exact v11_6 | exact v11_7 | exact v11_8 | exact v11_9 | exact v11_10 | exact w2 (by assumption) | exact w2 (min4 (by assumption)))) | (refine sf_adds ?_ ?_; (with_reducible first | exact v8_0 | exact v8_1 | exact v8_2 | exact v8_3 | exact v8_4 | exact v8_5 | exact v8_6 | exact v8_7)) | (refine sf_u (by omega) ?_)))); done))) (cwV 1 hts gX6_ends_X6_weeklyOf rfl rfl rfl (by decide +kernel) ⟨Nat.le_of_ble_eq_true rfl, Nat.le_of_ble_eq_true rfl⟩) hP hK hX hS 0 5 md_0 rfl rfl hl.1 rfl (Nat.le_of_ble_eq_true rfl) dX6_ends_7 ⟨Nat.zero_le _, Nat.zero_le _⟩ ?_
  refine lv_istore_n (lv' := [(2, .int _), (1, .int _), (0, .ref _)]) hx hb dX6_ends_10 rfl hl (by decide) rfl (fun ls hl => ?_)
  refine lv_iconst (v := 0) hx hb dX6_ends_11 (by decide) ?_
  refine lv_istore_n (lv' := [(3, .int _), (2, .int _), (1, .int _), (0, .ref _)]) hx hb dX6_ends_12 rfl hl (by decide) rfl (fun ls hl => ?_)
  have L13 : ∀ (n13 : Nat) (v3 v2 v1 : Int32) (Nw : Nat → Int32), (sfN Nw) → (Nw 1 < (1000 : Int32)) → (vp_in v1 4) → (0 ≤ v3.toInt) → (v3.toInt ≤ (Nw 0).toInt) → ((Nw 0).toInt - v3.toInt < (n13 : Int)) → sp_X6_ends N Z = lp13_X6_ends Z (n13) v3 v2 v1 Nw → ∀ (ls : Array Slot), lv_has ls 5 [(3, .int v3), (2, .int v2), (1, .int v1), (0, .ref (a 0))] → ∀ (H : Heap) (locs : List Loc), va_P D vwCl (md cI a Nw Z) H → va_D A (md cI a Nw Z) → va_S A s.heap H locs → W p l e (headSpec wsX6_ends ({ frames := 3, cells := 0, slots := 0, locals := 64 } : Room)).room s m [.ref (a 0)].toArray below meth c H locs 0 0 (MQ below (va_Qv (fun (u : Nat → Int32) => u = sp_X6_ends N Z) (fun u => rwB D A (md cI a u Z)) A) [.ref (a 0)].toArray s 0 0 A) (F0 m 13 ls []) := by
    intro n13
    induction n13 with
    | zero => intro v3 v2 v1 Nw hsw hwk hv1 i1 i2 im; exfalso; omega
    | succ n13 ih13 =>
      intro v3 v2 v1 Nw hsw hwk hv1 i1 i2 im hsp13 ls hl H locs hP hD hS
      refine lv_iload_n hx hb dX6_ends_13 rfl (lv_at hl 0 rfl) ?_
      refine lv_aload_n hx hb dX6_ends_14 rfl (lv_at hl 3 rfl) ?_
      refine va_get (D := D) (ci := 5) (C := RX6) (T := TX6) (N := 17) hx hb hts hi6 hown hK hP 0 md_0 rfl 0 (by decide) wd1 (fun _ h9 => h9) rfl dX6_ends_15 ?_
      refine lv_iconst (v := 0) hx hb dX6_ends_18 (by decide) ?_
      refine my_ialdK (k := 0) hx hb hK hP 1 0 md_1 rfl (by decide) (by first | (with_reducible first | assumption | exact m20 (by assumption) (by assumption) | exact ga20 (by assumption) (by assumption) | exact w2 (by assumption) | exact w2 (min4 (by assumption)) | exact w2 (s46 (by assumption)) | exact min4 (by assumption) | exact s46 (by assumption) | exact min11 (by assumption) (by assumption)) | (unfold vp_in; decide) | ((with_reducible (repeat (first | assumption | (refine sf_lays ?_ ?_ ?_; (with_reducible first | assumption | exact m20 (by assumption) (by assumption) | exact ga20 (by assumption) (by assumption)); (with_reducible first | exact v11_0 | exact v11_1 | exact v11_6 | exact v11_7 | exact v11_8 | exact v11_9 | exact v11_10 | exact w2 (by assumption) | exact w2 (min4 (by assumption)))) | (refine sf_adds ?_ ?_; (with_reducible first | exact v8_0 | exact v8_1 | exact v8_2 | exact v8_3 | exact v8_4 | exact v8_5 | exact v8_6 | exact v8_7)) | (refine sf_u (by omega) ?_)))); done)) dX6_ends_19 ?_
      refine lv_icmp_ge (tgt := 83) hx hb dX6_ends_20 (by decide) (fun c20 => ?_) (fun c20 => ?_)
      · refine lv_aload_n hx hb dX6_ends_83 rfl (lv_at hl 3 rfl) ?_
        refine va_get (D := D) (ci := 5) (C := RX6) (T := TX6) (N := 17) hx hb hts hi6 hown hK hP 0 md_0 rfl 0 (by decide) wd1 (fun _ h9 => h9) rfl dX6_ends_84 ?_
        refine lv_iconst (v := 1) hx hb dX6_ends_87 (by decide) ?_
        refine lv_dup2_11 hx hb dX6_ends_88 rfl rfl ?_
        refine my_ialdK (k := 1) hx hb hK hP 1 0 md_1 rfl (by decide) (by first | (with_reducible first | assumption | exact m20 (by assumption) (by assumption) | exact ga20 (by assumption) (by assumption) | exact w2 (by assumption) | exact w2 (min4 (by assumption)) | exact w2 (s46 (by assumption)) | exact min4 (by assumption) | exact s46 (by assumption) | exact min11 (by assumption) (by assumption)) | (unfold vp_in; decide) | ((with_reducible (repeat (first | assumption | (refine sf_lays ?_ ?_ ?_; (with_reducible first | assumption | exact m20 (by assumption) (by assumption) | exact ga20 (by assumption) (by assumption)); (with_reducible first | exact v11_0 | exact v11_1 | exact v11_6 | exact v11_7 | exact v11_8 | exact v11_9 | exact v11_10 | exact w2 (by assumption) | exact w2 (min4 (by assumption)))) | (refine sf_adds ?_ ?_; (with_reducible first | exact v8_0 | exact v8_1 | exact v8_2 | exact v8_3 | exact v8_4 | exact v8_5 | exact v8_6 | exact v8_7)) | (refine sf_u (by omega) ?_)))); done)) dX6_ends_89 ?_
        refine lv_iconst (v := 1) hx hb dX6_ends_90 (by decide) ?_
        refine lv_iadd hx hb dX6_ends_91 ?_
        refine my_iastK (k := 1) hx hb hK hP hD hS 1 0 md_1 rfl (by decide) (md_s1 _ _) (by first | (with_reducible first | assumption | exact m20 (by assumption) (by assumption) | exact ga20 (by assumption) (by assumption) | exact w2 (by assumption) | exact w2 (min4 (by assumption)) | exact w2 (s46 (by assumption)) | exact min4 (by assumption) | exact s46 (by assumption) | exact min11 (by assumption) (by assumption)) | (unfold vp_in; decide) | ((with_reducible (repeat (first | assumption | (refine sf_lays ?_ ?_ ?_; (with_reducible first | assumption | exact m20 (by assumption) (by assumption) | exact ga20 (by assumption) (by assumption)); (with_reducible first | exact v11_0 | exact v11_1 | exact v11_6 | exact v11_7 | exact v11_8 | exact v11_9 | exact v11_10 | exact w2 (by assumption) | exact w2 (min4 (by assumption)))) | (refine sf_adds ?_ ?_; (with_reducible first | exact v8_0 | exact v8_1 | exact v8_2 | exact v8_3 | exact v8_4 | exact v8_5 | exact v8_6 | exact v8_7)) | (refine sf_u (by omega) ?_)))); done)) dX6_ends_92 (fun H locs hP hD hS => ?_)
        refine lv_aload_n hx hb dX6_ends_93 rfl (lv_at hl 3 rfl) ?_
        refine lv_iconst (v := 5) hx hb dX6_ends_94 (by decide) ?_
        refine lv_aload_n hx hb dX6_ends_95 rfl (lv_at hl 3 rfl) ?_
        refine lv_aload_n hx hb dX6_ends_96 rfl (lv_at hl 3 rfl) ?_
        refine roV CF (c_X6_season l D cI cC cW t _ _ _  ) (cwV 0 hts gX6_ends_X6_season rfl rfl rfl (by decide +kernel) ⟨Nat.le_of_ble_eq_true rfl, Nat.le_of_ble_eq_true rfl⟩) hP hK hX hS 0 5 md_0 rfl rfl hl.1 rfl (Nat.le_of_ble_eq_true rfl) dX6_ends_97 ⟨Nat.zero_le _, Nat.zero_le _⟩ ?_
        refine roV CF (c_X6_weeklyOf l D cI cC cW t _ _ _ _ (sf_wk hsw hwk) (s46 (sf_wk hsw hwk))) (cwV 1 hts gX6_ends_X6_weeklyOf rfl rfl rfl (by decide +kernel) ⟨Nat.le_of_ble_eq_true rfl, Nat.le_of_ble_eq_true rfl⟩) hP hK hX hS 0 5 md_0 rfl rfl hl.1 rfl (Nat.le_of_ble_eq_true rfl) dX6_ends_100 ⟨Nat.zero_le _, Nat.zero_le _⟩ ?_
        refine lv_iload_n hx hb dX6_ends_103 rfl (lv_at hl 1 rfl) ?_
        refine lv_isub hx hb dX6_ends_104 ?_
        refine rwVv CF (c_X6_adds l D cI cC cW t _ _ _ _ _ _ (by first | (with_reducible first | assumption | exact m20 (by assumption) (by assumption) | exact ga20 (by assumption) (by assumption) | exact w2 (by assumption) | exact w2 (min4 (by assumption)) | exact w2 (s46 (by assumption)) | exact min4 (by assumption) | exact s46 (by assumption) | exact min11 (by assumption) (by assumption)) | (unfold vp_in; decide) | ((with_reducible (repeat (first | assumption | (refine sf_lays ?_ ?_ ?_; (with_reducible first | assumption | exact m20 (by assumption) (by assumption) | exact ga20 (by assumption) (by assumption)); (with_reducible first | exact v11_0 | exact v11_1 | exact v11_6 | exact v11_7 | exact v11_8 | exact v11_9 | exact v11_10 | exact w2 (by assumption) | exact w2 (min4 (by assumption)))) | (refine sf_adds ?_ ?_; (with_reducible first | exact v8_0 | exact v8_1 | exact v8_2 | exact v8_3 | exact v8_4 | exact v8_5 | exact v8_6 | exact v8_7)) | (refine sf_u (by omega) ?_)))); done))) (cwV 2 hts gX6_ends_X6_adds rfl rfl rfl (by decide +kernel) ⟨Nat.le_of_ble_eq_true rfl, Nat.le_of_ble_eq_true rfl⟩) hP hD hK hX hS hA 0 5 md_0 rfl rfl hl.1 rfl (Nat.le_of_ble_eq_true rfl) dX6_ends_105 ⟨Nat.zero_le _, Nat.zero_le _⟩ (fun H locs hP hD hS => ?_)
        exact rw_vret _ hx hb hr hP hD hS (Eq.trans hsp13 (Eq.trans (lp13_X6_ends_s _ _ _ _ _ _) (Eq.trans (if_pos c20) (rfl)))) dX6_ends_108 hlocks
      · have hv : vp_in v3 20 := cnin20 hsw i1 c20
        refine lv_iconst (v := 3) hx hb dX6_ends_23 (by decide) ?_
        refine lv_aload_n hx hb dX6_ends_24 rfl (lv_at hl 3 rfl) ?_
        refine lv_iload_n hx hb dX6_ends_25 rfl (lv_at hl 0 rfl) ?_
        refine lv_iconst (v := 2) hx hb dX6_ends_26 (by decide) ?_
        refine lv_iload_n hx hb dX6_ends_27 rfl (lv_at hl 2 rfl) ?_
        refine lv_iadd hx hb dX6_ends_28 ?_
        refine roV CF (c_X6_of l D cI cC cW t _ _ _ _ _ (by first | (with_reducible first | assumption | exact m20 (by assumption) (by assumption) | exact ga20 (by assumption) (by assumption) | exact w2 (by assumption) | exact w2 (min4 (by assumption)) | exact w2 (s46 (by assumption)) | exact min4 (by assumption) | exact s46 (by assumption) | exact min11 (by assumption) (by assumption)) | (unfold vp_in; decide) | ((with_reducible (repeat (first | assumption | (refine sf_lays ?_ ?_ ?_; (with_reducible first | assumption | exact m20 (by assumption) (by assumption) | exact ga20 (by assumption) (by assumption)); (with_reducible first | exact v11_0 | exact v11_1 | exact v11_6 | exact v11_7 | exact v11_8 | exact v11_9 | exact v11_10 | exact w2 (by assumption) | exact w2 (min4 (by assumption)))) | (refine sf_adds ?_ ?_; (with_reducible first | exact v8_0 | exact v8_1 | exact v8_2 | exact v8_3 | exact v8_4 | exact v8_5 | exact v8_6 | exact v8_7)) | (refine sf_u (by omega) ?_)))); done)) (by first | (with_reducible first | assumption | exact m20 (by assumption) (by assumption) | exact ga20 (by assumption) (by assumption) | exact w2 (by assumption) | exact w2 (min4 (by assumption)) | exact w2 (s46 (by assumption)) | exact min4 (by assumption) | exact s46 (by assumption) | exact min11 (by assumption) (by assumption)) | (unfold vp_in; decide) | ((with_reducible (repeat (first | assumption | (refine sf_lays ?_ ?_ ?_; (with_reducible first | assumption | exact m20 (by assumption) (by assumption) | exact ga20 (by assumption) (by assumption)); (with_reducible first | exact v11_0 | exact v11_1 | exact v11_6 | exact v11_7 | exact v11_8 | exact v11_9 | exact v11_10 | exact w2 (by assumption) | exact w2 (min4 (by assumption)))) | (refine sf_adds ?_ ?_; (with_reducible first | exact v8_0 | exact v8_1 | exact v8_2 | exact v8_3 | exact v8_4 | exact v8_5 | exact v8_6 | exact v8_7)) | (refine sf_u (by omega) ?_)))); done))) (cwV 2 hts gX6_ends_X6_of rfl rfl rfl (by decide +kernel) ⟨Nat.le_of_ble_eq_true rfl, Nat.le_of_ble_eq_true rfl⟩) hP hK hX hS 0 5 md_0 rfl rfl hl.1 rfl (Nat.le_of_ble_eq_true rfl) dX6_ends_29 ⟨Nat.zero_le _, Nat.zero_le _⟩ ?_
        refine lv_imul hx hb dX6_ends_32 ?_
        refine lv_aload_n hx hb dX6_ends_33 rfl (lv_at hl 3 rfl) ?_
        refine lv_iload_n hx hb dX6_ends_34 rfl (lv_at hl 0 rfl) ?_
        refine lv_bipush (v := 9) hx hb dX6_ends_35 (by decide) ?_
        refine roV CF (c_X6_of l D cI cC cW t _ _ _ _ _ (by first | (with_reducible first | assumption | exact m20 (by assumption) (by assumption) | exact ga20 (by assumption) (by assumption) | exact w2 (by assumption) | exact w2 (min4 (by assumption)) | exact w2 (s46 (by assumption)) | exact min4 (by assumption) | exact s46 (by assumption) | exact min11 (by assumption) (by assumption)) | (unfold vp_in; decide) | ((with_reducible (repeat (first | assumption | (refine sf_lays ?_ ?_ ?_; (with_reducible first | assumption | exact m20 (by assumption) (by assumption) | exact ga20 (by assumption) (by assumption)); (with_reducible first | exact v11_0 | exact v11_1 | exact v11_6 | exact v11_7 | exact v11_8 | exact v11_9 | exact v11_10 | exact w2 (by assumption) | exact w2 (min4 (by assumption)))) | (refine sf_adds ?_ ?_; (with_reducible first | exact v8_0 | exact v8_1 | exact v8_2 | exact v8_3 | exact v8_4 | exact v8_5 | exact v8_6 | exact v8_7)) | (refine sf_u (by omega) ?_)))); done)) (by first | (with_reducible first | assumption | exact m20 (by assumption) (by assumption) | exact ga20 (by assumption) (by assumption) | exact w2 (by assumption) | exact w2 (min4 (by assumption)) | exact w2 (s46 (by assumption)) | exact min4 (by assumption) | exact s46 (by assumption) | exact min11 (by assumption) (by assumption)) | (unfold vp_in; decide) | ((with_reducible (repeat (first | assumption | (refine sf_lays ?_ ?_ ?_; (with_reducible first | assumption | exact m20 (by assumption) (by assumption) | exact ga20 (by assumption) (by assumption)); (with_reducible first | exact v11_0 | exact v11_1 | exact v11_6 | exact v11_7 | exact v11_8 | exact v11_9 | exact v11_10 | exact w2 (by assumption) | exact w2 (min4 (by assumption)))) | (refine sf_adds ?_ ?_; (with_reducible first | exact v8_0 | exact v8_1 | exact v8_2 | exact v8_3 | exact v8_4 | exact v8_5 | exact v8_6 | exact v8_7)) | (refine sf_u (by omega) ?_)))); done))) (cwV 2 hts gX6_ends_X6_of rfl rfl rfl (by decide +kernel) ⟨Nat.le_of_ble_eq_true rfl, Nat.le_of_ble_eq_true rfl⟩) hP hK hX hS 0 5 md_0 rfl rfl hl.1 rfl (Nat.le_of_ble_eq_true rfl) dX6_ends_37 ⟨Nat.zero_le _, Nat.zero_le _⟩ ?_
        refine lv_iadd hx hb dX6_ends_40 ?_
        refine lv_iconst (v := 4) hx hb dX6_ends_41 (by decide) ?_
        refine lv_idiv hx hb dX6_ends_42 (by decide) ?_
        refine lv_istore (lv' := [(4, .int _), (3, .int _), (2, .int _), (1, .int _), (0, .ref _)]) hx hb dX6_ends_43 hl (by decide) rfl (fun ls hl => ?_)
        refine lv_aload_n hx hb dX6_ends_45 rfl (lv_at hl 4 rfl) ?_
        refine lv_iload_n hx hb dX6_ends_46 rfl (lv_at hl 1 rfl) ?_
        refine lv_iconst (v := 2) hx hb dX6_ends_47 (by decide) ?_
        refine lv_iload_n hx hb dX6_ends_48 rfl (lv_at hl 3 rfl) ?_
        refine lv_iadd hx hb dX6_ends_49 ?_
        refine lv_iload hx hb dX6_ends_50 (lv_at hl 0 rfl) ?_
        refine lv_sipush (v := 999) hx hb dX6_ends_52 (by decide) ?_
        refine lv_icmp_le (tgt := 64) hx hb dX6_ends_55 (by decide) (fun c55 => ?_) (fun c55 => ?_)
        · refine lv_iload hx hb dX6_ends_64 (lv_at hl 0 rfl) ?_
          refine rwVv CF (c_X6_lays l D cI cC cW t _ _ _ _ _ _ _ (by first | (with_reducible first | assumption | exact m20 (by assumption) (by assumption) | exact ga20 (by assumption) (by assumption) | exact w2 (by assumption) | exact w2 (min4 (by assumption)) | exact w2 (s46 (by assumption)) | exact min4 (by assumption) | exact s46 (by assumption) | exact min11 (by assumption) (by assumption)) | (unfold vp_in; decide) | ((with_reducible (repeat (first | assumption | (refine sf_lays ?_ ?_ ?_; (with_reducible first | assumption | exact m20 (by assumption) (by assumption) | exact ga20 (by assumption) (by assumption)); (with_reducible first | exact v11_0 | exact v11_1 | exact v11_6 | exact v11_7 | exact v11_8 | exact v11_9 | exact v11_10 | exact w2 (by assumption) | exact w2 (min4 (by assumption)))) | (refine sf_adds ?_ ?_; (with_reducible first | exact v8_0 | exact v8_1 | exact v8_2 | exact v8_3 | exact v8_4 | exact v8_5 | exact v8_6 | exact v8_7)) | (refine sf_u (by omega) ?_)))); done)) (by first | (with_reducible first | assumption | exact m20 (by assumption) (by assumption) | exact ga20 (by assumption) (by assumption) | exact w2 (by assumption) | exact w2 (min4 (by assumption)) | exact w2 (s46 (by assumption)) | exact min4 (by assumption) | exact s46 (by assumption) | exact min11 (by assumption) (by assumption)) | (unfold vp_in; decide) | ((with_reducible (repeat (first | assumption | (refine sf_lays ?_ ?_ ?_; (with_reducible first | assumption | exact m20 (by assumption) (by assumption) | exact ga20 (by assumption) (by assumption)); (with_reducible first | exact v11_0 | exact v11_1 | exact v11_6 | exact v11_7 | exact v11_8 | exact v11_9 | exact v11_10 | exact w2 (by assumption) | exact w2 (min4 (by assumption)))) | (refine sf_adds ?_ ?_; (with_reducible first | exact v8_0 | exact v8_1 | exact v8_2 | exact v8_3 | exact v8_4 | exact v8_5 | exact v8_6 | exact v8_7)) | (refine sf_u (by omega) ?_)))); done))) (cwV 3 hts gX6_ends_X6_lays rfl rfl rfl (by decide +kernel) ⟨Nat.le_of_ble_eq_true rfl, Nat.le_of_ble_eq_true rfl⟩) hP hD hK hX hS hA 0 5 md_0 rfl rfl hl.1 rfl (Nat.le_of_ble_eq_true rfl) dX6_ends_66 ⟨Nat.zero_le _, Nat.zero_le _⟩ (fun H locs hP hD hS => ?_)
          refine lv_aload_n hx hb dX6_ends_69 rfl (lv_at hl 4 rfl) ?_
          refine lv_iload_n hx hb dX6_ends_70 rfl (lv_at hl 1 rfl) ?_
          refine lv_bipush (v := 9) hx hb dX6_ends_71 (by decide) ?_
          refine lv_iconst (v := 0) hx hb dX6_ends_73 (by decide) ?_
          refine rwVv CF (c_X6_lays l D cI cC cW t _ _ _ _ _ _ _ (by first | (with_reducible first | assumption | exact m20 (by assumption) (by assumption) | exact ga20 (by assumption) (by assumption) | exact w2 (by assumption) | exact w2 (min4 (by assumption)) | exact w2 (s46 (by assumption)) | exact min4 (by assumption) | exact s46 (by assumption) | exact min11 (by assumption) (by assumption)) | (unfold vp_in; decide) | ((with_reducible (repeat (first | assumption | (refine sf_lays ?_ ?_ ?_; (with_reducible first | assumption | exact m20 (by assumption) (by assumption) | exact ga20 (by assumption) (by assumption)); (with_reducible first | exact v11_0 | exact v11_1 | exact v11_6 | exact v11_7 | exact v11_8 | exact v11_9 | exact v11_10 | exact w2 (by assumption) | exact w2 (min4 (by assumption)))) | (refine sf_adds ?_ ?_; (with_reducible first | exact v8_0 | exact v8_1 | exact v8_2 | exact v8_3 | exact v8_4 | exact v8_5 | exact v8_6 | exact v8_7)) | (refine sf_u (by omega) ?_)))); done)) (by first | (with_reducible first | assumption | exact m20 (by assumption) (by assumption) | exact ga20 (by assumption) (by assumption) | exact w2 (by assumption) | exact w2 (min4 (by assumption)) | exact w2 (s46 (by assumption)) | exact min4 (by assumption) | exact s46 (by assumption) | exact min11 (by assumption) (by assumption)) | (unfold vp_in; decide) | ((with_reducible (repeat (first | assumption | (refine sf_lays ?_ ?_ ?_; (with_reducible first | assumption | exact m20 (by assumption) (by assumption) | exact ga20 (by assumption) (by assumption)); (with_reducible first | exact v11_0 | exact v11_1 | exact v11_6 | exact v11_7 | exact v11_8 | exact v11_9 | exact v11_10 | exact w2 (by assumption) | exact w2 (min4 (by assumption)))) | (refine sf_adds ?_ ?_; (with_reducible first | exact v8_0 | exact v8_1 | exact v8_2 | exact v8_3 | exact v8_4 | exact v8_5 | exact v8_6 | exact v8_7)) | (refine sf_u (by omega) ?_)))); done))) (cwV 3 hts gX6_ends_X6_lays rfl rfl rfl (by decide +kernel) ⟨Nat.le_of_ble_eq_true rfl, Nat.le_of_ble_eq_true rfl⟩) hP hD hK hX hS hA 0 5 md_0 rfl rfl hl.1 rfl (Nat.le_of_ble_eq_true rfl) dX6_ends_74 ⟨Nat.zero_le _, Nat.zero_le _⟩ (fun H locs hP hD hS => ?_)
          refine lv_iinc (v := _ + (1 : Int32)) (lv' := [(3, .int _), (4, .int _), (2, .int _), (1, .int _), (0, .ref _)]) hx hb dX6_ends_77 hl (k := 1) rfl rfl (by decide) rfl (fun ls hl => ?_)
          refine lv_goto (tgt := 13) hx hb dX6_ends_80 (by decide) ?_
          exact ih13 _ _ _ _ (sf_lays hv (by unfold vp_in; decide) (sf_lays hv (w2 hv1) hsw)) (by rw [la1 hv (by unfold vp_in; decide), la1 hv (w2 hv1)]; exact hwk) (hv1) (cs1 i1 c20) (by rw [la0 hv (by unfold vp_in; decide), la0 hv (w2 hv1)]; exact cs2 c20) (by rw [la0 hv (by unfold vp_in; decide), la0 hv (w2 hv1)]; exact csm c20 im) (Eq.trans hsp13 (Eq.trans (lp13_X6_ends_s _ _ _ _ _ _) (Eq.trans (if_neg c20) (Eq.trans (if_pos c55) (rfl))))) _ (lv_sub hl [0, 2, 3, 4] rfl) _ _ hP hD hS
        · refine lv_sipush (v := 999) hx hb dX6_ends_58 (by decide) ?_
          refine lv_goto (tgt := 66) hx hb dX6_ends_61 (by decide) ?_
          refine rwVv CF (c_X6_lays l D cI cC cW t _ _ _ _ _ _ _ (by first | (with_reducible first | assumption | exact m20 (by assumption) (by assumption) | exact ga20 (by assumption) (by assumption) | exact w2 (by assumption) | exact w2 (min4 (by assumption)) | exact w2 (s46 (by assumption)) | exact min4 (by assumption) | exact s46 (by assumption) | exact min11 (by assumption) (by assumption)) | (unfold vp_in; decide) | ((with_reducible (repeat (first | assumption | (refine sf_lays ?_ ?_ ?_; (with_reducible first | assumption | exact m20 (by assumption) (by assumption) | exact ga20 (by assumption) (by assumption)); (with_reducible first | exact v11_0 | exact v11_1 | exact v11_6 | exact v11_7 | exact v11_8 | exact v11_9 | exact v11_10 | exact w2 (by assumption) | exact w2 (min4 (by assumption)))) | (refine sf_adds ?_ ?_; (with_reducible first | exact v8_0 | exact v8_1 | exact v8_2 | exact v8_3 | exact v8_4 | exact v8_5 | exact v8_6 | exact v8_7)) | (refine sf_u (by omega) ?_)))); done)) (by first | (with_reducible first | assumption | exact m20 (by assumption) (by assumption) | exact ga20 (by assumption) (by assumption) | exact w2 (by assumption) | exact w2 (min4 (by assumption)) | exact w2 (s46 (by assumption)) | exact min4 (by assumption) | exact s46 (by assumption) | exact min11 (by assumption) (by assumption)) | (unfold vp_in; decide) | ((with_reducible (repeat (first | assumption | (refine sf_lays ?_ ?_ ?_; (with_reducible first | assumption | exact m20 (by assumption) (by assumption) | exact ga20 (by assumption) (by assumption)); (with_reducible first | exact v11_0 | exact v11_1 | exact v11_6 | exact v11_7 | exact v11_8 | exact v11_9 | exact v11_10 | exact w2 (by assumption) | exact w2 (min4 (by assumption)))) | (refine sf_adds ?_ ?_; (with_reducible first | exact v8_0 | exact v8_1 | exact v8_2 | exact v8_3 | exact v8_4 | exact v8_5 | exact v8_6 | exact v8_7)) | (refine sf_u (by omega) ?_)))); done))) (cwV 3 hts gX6_ends_X6_lays rfl rfl rfl (by decide +kernel) ⟨Nat.le_of_ble_eq_true rfl, Nat.le_of_ble_eq_true rfl⟩) hP hD hK hX hS hA 0 5 md_0 rfl rfl hl.1 rfl (Nat.le_of_ble_eq_true rfl) dX6_ends_66 ⟨Nat.zero_le _, Nat.zero_le _⟩ (fun H locs hP hD hS => ?_)
          refine lv_aload_n hx hb dX6_ends_69 rfl (lv_at hl 4 rfl) ?_
          refine lv_iload_n hx hb dX6_ends_70 rfl (lv_at hl 1 rfl) ?_
          refine lv_bipush (v := 9) hx hb dX6_ends_71 (by decide) ?_
          refine lv_iconst (v := 0) hx hb dX6_ends_73 (by decide) ?_
          refine rwVv CF (c_X6_lays l D cI cC cW t _ _ _ _ _ _ _ (by first | (with_reducible first | assumption | exact m20 (by assumption) (by assumption) | exact ga20 (by assumption) (by assumption) | exact w2 (by assumption) | exact w2 (min4 (by assumption)) | exact w2 (s46 (by assumption)) | exact min4 (by assumption) | exact s46 (by assumption) | exact min11 (by assumption) (by assumption)) | (unfold vp_in; decide) | ((with_reducible (repeat (first | assumption | (refine sf_lays ?_ ?_ ?_; (with_reducible first | assumption | exact m20 (by assumption) (by assumption) | exact ga20 (by assumption) (by assumption)); (with_reducible first | exact v11_0 | exact v11_1 | exact v11_6 | exact v11_7 | exact v11_8 | exact v11_9 | exact v11_10 | exact w2 (by assumption) | exact w2 (min4 (by assumption)))) | (refine sf_adds ?_ ?_; (with_reducible first | exact v8_0 | exact v8_1 | exact v8_2 | exact v8_3 | exact v8_4 | exact v8_5 | exact v8_6 | exact v8_7)) | (refine sf_u (by omega) ?_)))); done)) (by first | (with_reducible first | assumption | exact m20 (by assumption) (by assumption) | exact ga20 (by assumption) (by assumption) | exact w2 (by assumption) | exact w2 (min4 (by assumption)) | exact w2 (s46 (by assumption)) | exact min4 (by assumption) | exact s46 (by assumption) | exact min11 (by assumption) (by assumption)) | (unfold vp_in; decide) | ((with_reducible (repeat (first | assumption | (refine sf_lays ?_ ?_ ?_; (with_reducible first | assumption | exact m20 (by assumption) (by assumption) | exact ga20 (by assumption) (by assumption)); (with_reducible first | exact v11_0 | exact v11_1 | exact v11_6 | exact v11_7 | exact v11_8 | exact v11_9 | exact v11_10 | exact w2 (by assumption) | exact w2 (min4 (by assumption)))) | (refine sf_adds ?_ ?_; (with_reducible first | exact v8_0 | exact v8_1 | exact v8_2 | exact v8_3 | exact v8_4 | exact v8_5 | exact v8_6 | exact v8_7)) | (refine sf_u (by omega) ?_)))); done))) (cwV 3 hts gX6_ends_X6_lays rfl rfl rfl (by decide +kernel) ⟨Nat.le_of_ble_eq_true rfl, Nat.le_of_ble_eq_true rfl⟩) hP hD hK hX hS hA 0 5 md_0 rfl rfl hl.1 rfl (Nat.le_of_ble_eq_true rfl) dX6_ends_74 ⟨Nat.zero_le _, Nat.zero_le _⟩ (fun H locs hP hD hS => ?_)
          refine lv_iinc (v := _ + (1 : Int32)) (lv' := [(3, .int _), (4, .int _), (2, .int _), (1, .int _), (0, .ref _)]) hx hb dX6_ends_77 hl (k := 1) rfl rfl (by decide) rfl (fun ls hl => ?_)
          refine lv_goto (tgt := 13) hx hb dX6_ends_80 (by decide) ?_
          exact ih13 _ _ _ _ (sf_lays hv (by unfold vp_in; decide) (sf_lays hv (w2 hv1) hsw)) (by rw [la1 hv (by unfold vp_in; decide), la1 hv (w2 hv1)]; exact hwk) (hv1) (cs1 i1 c20) (by rw [la0 hv (by unfold vp_in; decide), la0 hv (w2 hv1)]; exact cs2 c20) (by rw [la0 hv (by unfold vp_in; decide), la0 hv (w2 hv1)]; exact csm c20 im) (Eq.trans hsp13 (Eq.trans (lp13_X6_ends_s _ _ _ _ _ _) (Eq.trans (if_neg c20) (Eq.trans (if_neg c55) (rfl))))) _ (lv_sub hl [0, 2, 3, 4] rfl) _ _ hP hD hS
  exact L13 21 _ _ _ _ (hsf) (hwk0) (s46 hsf) (by decide) (cn2 hsf) (cnm hsf) (rfl) _ (lv_sub hl [0, 1, 2, 3] rfl) _ _ hP hD hS

def sp_X6_signAt (N : Nat → Int32) (Z : Nat → Nat → Int32) (x1 : Int32) : Int32 :=
  if (Z 0 1) ≤ x1 then ((0 : Int32)) else ((Z 3 (ix x1)))
set_option maxHeartbeats 4000000 in
set_option maxRecDepth 100000 in
theorem c_X6_signAt (l : Launch) (D : va_G) (cI cC cW : ClassId) (t : Nat → Nat) (a : Nat → Nat) (N : Nat → Int32) (Z : Nat → Nat → Int32) (x1 : Int32) (h0 : 0 ≤ x1.toInt) (hty : tyZ Z) : Met l yX6_signAt wsX6_signAt ({ frames := 0, cells := 0, slots := 0, locals := 0 }) (va_Pc [.ref (a 0), .int x1] (roP D (tyL cI cC cW) (md cI a N Z) t)) (vp_Si (fun r => r = sp_X6_signAt N Z x1)) 0 0 (fun _ => False) := by
  refine Met.ofW (cc := cX6_signAt) (maxL := 2) (ret := (some .int)) (by decide) rfl ?_
  intro p e s m args below meth c s₁ B hml hv
  obtain ⟨rfl, hP, hK, hX⟩ := hv
  have hx := B.exec
  have hb := B.bytes
  have hr := B.returns
  have hts := atoms_spec (ws := wsX6_signAt) B.pre
  have hown : s.vm.findClass RX6 = some m.cls := findClass_of_methodNamed B.named
  have hlocks := B.notSynchronized
  have hS : va_S (fun _ => False) s.heap s.heap [] := va_S.rf
  have wd1 : (Cond.fieldLink RX6 156 "PickSlotsModel" "typed" "I").before [.ref (a 0), .int x1].toArray s = true := hts _ (List.mem_of_getElem? (i := 1) rfl)
  have wd2 : (Cond.fieldLink RX6 19 "PickSlotsModel" "text" "[I").before [.ref (a 0), .int x1].toArray s = true := hts _ (List.mem_of_getElem? (i := 2) rfl)
  have hi6 : ∀ w ∈ wsX60, w ∈ wsX6_signAt := fun w h => List.mem_cons_of_mem _ (List.mem_append_right _ (h))
  have hl := lv_entry ([.ref (a 0), .int x1]) (n := 2) (Nat.le_of_ble_eq_true rfl)
  rw [lg_entry_eq]
  generalize (lg_sl ([.ref (a 0), .int x1]) ++ List.replicate (2 - (lg_sl ([.ref (a 0), .int x1])).length) Slot.unset).toArray = ls at hl ⊢
  have hl : lv_has ls 2 [(0, .ref (a 0)), (1, .int x1)] := hl
  refine lv_iload_n hx hb dX6_signAt_0 rfl (lv_at hl 1 rfl) ?_
  refine lv_aload_n hx hb dX6_signAt_1 rfl (lv_at hl 0 rfl) ?_
  refine va_get (D := D) (ci := 5) (C := RX6) (T := TX6) (N := 17) hx hb hts hi6 hown hK hP 0 md_0 rfl 5 (by decide) wd1 (fun _ h9 => h9) rfl dX6_signAt_2 ?_
  refine lv_icmp_ge (tgt := 17) hx hb dX6_signAt_5 (by decide) (fun c5 => ?_) (fun c5 => ?_)
  · refine lv_iconst (v := 0) hx hb dX6_signAt_17 (by decide) ?_
    exact ro_ret hx hb hr (Eq.trans (if_pos c5) (rfl)) dX6_signAt_18 hlocks
  · have hi : vp_in x1 60 := sgin h0 hty c5
    refine lv_aload_n hx hb dX6_signAt_8 rfl (lv_at hl 0 rfl) ?_
    refine va_get (D := D) (ci := 5) (C := RX6) (T := TX6) (N := 17) hx hb hts hi6 hown hK hP 0 md_0 rfl 4 (by decide) wd2 (fun _ h9 => h9) rfl dX6_signAt_9 ?_
    refine lv_iload_n hx hb dX6_signAt_12 rfl (lv_at hl 1 rfl) ?_
    refine va_iald hx hb hK hP 4 0 md_4 rfl (by first | (with_reducible first | assumption | exact m20 (by assumption) (by assumption) | exact ga20 (by assumption) (by assumption) | exact w2 (by assumption) | exact w2 (min4 (by assumption)) | exact w2 (s46 (by assumption)) | exact min4 (by assumption) | exact s46 (by assumption) | exact min11 (by assumption) (by assumption)) | (unfold vp_in; decide) | ((with_reducible (repeat (first | assumption | (refine sf_lays ?_ ?_ ?_; (with_reducible first | assumption | exact m20 (by assumption) (by assumption) | exact ga20 (by assumption) (by assumption)); (with_reducible first | exact v11_0 | exact v11_1 | exact v11_6 | exact v11_7 | exact v11_8 | exact v11_9 | exact v11_10 | exact w2 (by assumption) | exact w2 (min4 (by assumption)))) | (refine sf_adds ?_ ?_; (with_reducible first | exact v8_0 | exact v8_1 | exact v8_2 | exact v8_3 | exact v8_4 | exact v8_5 | exact v8_6 | exact v8_7)) | (refine sf_u (by omega) ?_)))); done)) dX6_signAt_13 ?_
    refine lv_goto (tgt := 18) hx hb dX6_signAt_14 (by decide) ?_
    exact ro_ret hx hb hr (Eq.trans (if_neg c5) (rfl)) dX6_signAt_18 hlocks

def lp3_X6_copies12 (N : Nat → Int32) (x2 x4 : Int32) : Nat → Int32 → (Nat → Nat → Int32) → Nat → Nat → Int32
  | 0, v4, Zw => Zw
  | n + 1, v4, Zw => if (236 : Int32) ≤ v4 then (Zw) else (let Z101 : Nat → Nat → Int32 := zu Zw 1 (ix (x4 + v4)) (N ((ix (x2 + v4)))); lp3_X6_copies12 N x2 x4 n (v4 + (1 : Int32)) Z101)
theorem lp3_X6_copies12_s (N : Nat → Int32) (x2 x4 : Int32) (n : Nat) (v4 : Int32) (Zw : Nat → Nat → Int32) : lp3_X6_copies12 N x2 x4 (n + 1) v4 Zw = if (236 : Int32) ≤ v4 then (Zw) else (let Z101 : Nat → Nat → Int32 := zu Zw 1 (ix (x4 + v4)) (N ((ix (x2 + v4)))); lp3_X6_copies12 N x2 x4 n (v4 + (1 : Int32)) Z101) := rfl
def sp_X6_copies12 (N : Nat → Int32) (Z : Nat → Nat → Int32) (x2 x4 : Int32) : Nat → Nat → Int32 :=
  lp3_X6_copies12 N x2 x4 237 (0 : Int32) Z
set_option maxHeartbeats 4000000 in
set_option maxRecDepth 100000 in
theorem c_X6_copies12 (l : Launch) (D : va_G) (cI cC cW : ClassId) (t : Nat → Nat) (a : Nat → Nat) (sz : Nat) (N : Nat → Int32) (Z : Nat → Nat → Int32) (x2 x4 : Int32) (ha : 0 ≤ x2.toInt) (ha2 : x2.toInt ≤ 0) (hq : 0 ≤ x4.toInt) (hq2 : x4.toInt ≤ 708) : Met l yX6_copies wsX6_copies ({ frames := 0, cells := 0, slots := 0, locals := 0 }) (va_Pc [.ref (a 1), .int x2, .ref (a 2), .int x4] (rwP D (tyL cI cC cW) (md cI a N Z) t sz)) (va_Qv (fun (u : Nat → Nat → Int32) => u = sp_X6_copies12 N Z x2 x4) (fun u => rwB D (va_A (md cI a N Z) sz) (md cI a N u)) (va_A (md cI a N Z) sz)) 0 0 (va_A (md cI a N Z) sz) := by
  refine Met.ofW (cc := cX6_copies) (maxL := 5) (ret := none) (by decide) rfl ?_
  intro p e s m args below meth c s₁ B hml hv
  obtain ⟨rfl, hsz, hP, hK, hD0, hX⟩ := hv
  have hx := B.exec
  have hb := B.bytes
  have hr := B.returns
  have hts := atoms_spec (ws := wsX6_copies) B.pre
  have hown : s.vm.findClass RX6 = some m.cls := findClass_of_methodNamed B.named
  have hlocks := B.notSynchronized
  subst hsz
  have hD := hD0.self (sz := s.heap.size)
  generalize hAe : va_A (md cI a N Z) s.heap.size = A at hD hX ⊢
  have hA : ∀ q : Nat, s.heap.size ≤ q → A q := fun q h => by rw [← hAe]; exact Or.inr h
  have hS : va_S A s.heap s.heap [] := va_S.rf
  have hl := lv_entry ([.ref (a 1), .int x2, .ref (a 2), .int x4]) (n := 5) (Nat.le_of_ble_eq_true rfl)
  rw [lg_entry_eq]
  generalize (lg_sl ([.ref (a 1), .int x2, .ref (a 2), .int x4]) ++ List.replicate (5 - (lg_sl ([.ref (a 1), .int x2, .ref (a 2), .int x4])).length) Slot.unset).toArray = ls at hl ⊢
  have hl : lv_has ls 5 [(0, .ref (a 1)), (1, .int x2), (2, .ref (a 2)), (3, .int x4)] := hl
  refine lv_iconst (v := 0) hx hb dX6_copies_0 (by decide) ?_
  refine lv_istore (lv' := [(4, .int _), (0, .ref _), (1, .int _), (2, .ref _), (3, .int _)]) hx hb dX6_copies_1 hl (by decide) rfl (fun ls hl => ?_)
  have L3 : ∀ (n3 : Nat) (v4 : Int32) (Zw : Nat → Nat → Int32), (0 ≤ v4.toInt) → (v4.toInt ≤ (236 : Int32).toInt) → ((236 : Int32).toInt - v4.toInt < (n3 : Int)) → sp_X6_copies12 N Z x2 x4 = lp3_X6_copies12 N x2 x4 (n3) v4 Zw → ∀ (ls : Array Slot), lv_has ls 5 [(4, .int v4), (0, .ref (a 1)), (1, .int x2), (2, .ref (a 2)), (3, .int x4)] → ∀ (H : Heap) (locs : List Loc), va_P D vwCl (md cI a N Zw) H → va_D A (md cI a N Zw) → va_S A s.heap H locs → W p l e (headSpec wsX6_copies ({ frames := 0, cells := 0, slots := 0, locals := 0 } : Room)).room s m [.ref (a 1), .int x2, .ref (a 2), .int x4].toArray below meth c H locs 0 0 (MQ below (va_Qv (fun (u : Nat → Nat → Int32) => u = sp_X6_copies12 N Z x2 x4) (fun u => rwB D A (md cI a N u)) A) [.ref (a 1), .int x2, .ref (a 2), .int x4].toArray s 0 0 A) (F0 m 3 ls []) := by
    intro n3
    induction n3 with
    | zero => intro v4 Zw i1 i2 im; exfalso; omega
    | succ n3 ih3 =>
      intro v4 Zw i1 i2 im hsp3 ls hl H locs hP hD hS
      refine lv_iload hx hb dX6_copies_3 (lv_at hl 0 rfl) ?_
      refine lv_sipush (v := 236) hx hb dX6_copies_5 (by decide) ?_
      refine lv_icmp_ge (tgt := 29) hx hb dX6_copies_8 (by decide) (fun c8 => ?_) (fun c8 => ?_)
      · exact rw_vret _ hx hb hr hP hD hS (Eq.trans hsp3 (Eq.trans (lp3_X6_copies12_s _ _ _ _ _ _) (Eq.trans (if_pos c8) (rfl)))) dX6_copies_29 hlocks
      · refine lv_aload_n hx hb dX6_copies_11 rfl (lv_at hl 3 rfl) ?_
        refine lv_iload_n hx hb dX6_copies_12 rfl (lv_at hl 4 rfl) ?_
        refine lv_iload hx hb dX6_copies_13 (lv_at hl 0 rfl) ?_
        refine lv_iadd hx hb dX6_copies_15 ?_
        refine lv_aload_n hx hb dX6_copies_16 rfl (lv_at hl 1 rfl) ?_
        refine lv_iload_n hx hb dX6_copies_17 rfl (lv_at hl 2 rfl) ?_
        refine lv_iload hx hb dX6_copies_18 (lv_at hl 0 rfl) ?_
        refine lv_iadd hx hb dX6_copies_20 ?_
        refine va_iald hx hb hK hP 1 0 md_1 rfl (cpin (b := 0) ha ha2 (by decide) (by decide) i1 c8) dX6_copies_21 ?_
        refine my_iast hx hb hK hP hD hS 2 0 md_2 rfl (md_s2 _ _) (cpin (b := 708) hq hq2 (by decide) (by decide) i1 c8) dX6_copies_22 (fun H locs hP hD hS => ?_)
        refine lv_iinc (v := _ + (1 : Int32)) (lv' := [(4, .int _), (0, .ref _), (1, .int _), (2, .ref _), (3, .int _)]) hx hb dX6_copies_23 hl (k := 0) rfl rfl (by decide) rfl (fun ls hl => ?_)
        refine lv_goto (tgt := 3) hx hb dX6_copies_26 (by decide) ?_
        exact ih3 _ _ (cs1 i1 c8) (cs2 c8) (csm c8 im) (Eq.trans hsp3 (Eq.trans (lp3_X6_copies12_s _ _ _ _ _ _) (Eq.trans (if_neg c8) (rfl)))) _ (lv_sub hl [0, 1, 2, 3, 4] rfl) _ _ hP hD hS
  exact L3 237 _ _ (by decide) (by decide) (by decide) (rfl) _ (lv_sub hl [0, 1, 2, 3, 4] rfl) _ _ hP hD hS

def lp3_X6_copies21 (Z : Nat → Nat → Int32) (x2 x4 : Int32) : Nat → Int32 → (Nat → Int32) → Nat → Int32
  | 0, v4, Nw => Nw
  | n + 1, v4, Nw => if (236 : Int32) ≤ v4 then (Nw) else (let N101 : Nat → Int32 := upd Nw ((ix (x4 + v4))) (Z 1 (ix (x2 + v4))); lp3_X6_copies21 Z x2 x4 n (v4 + (1 : Int32)) N101)
theorem lp3_X6_copies21_s (Z : Nat → Nat → Int32) (x2 x4 : Int32) (n : Nat) (v4 : Int32) (Nw : Nat → Int32) : lp3_X6_copies21 Z x2 x4 (n + 1) v4 Nw = if (236 : Int32) ≤ v4 then (Nw) else (let N101 : Nat → Int32 := upd Nw ((ix (x4 + v4))) (Z 1 (ix (x2 + v4))); lp3_X6_copies21 Z x2 x4 n (v4 + (1 : Int32)) N101) := rfl
def sp_X6_copies21 (N : Nat → Int32) (Z : Nat → Nat → Int32) (x2 x4 : Int32) : Nat → Int32 :=
  lp3_X6_copies21 Z x2 x4 237 (0 : Int32) N
set_option maxHeartbeats 4000000 in
set_option maxRecDepth 100000 in
theorem c_X6_copies21 (l : Launch) (D : va_G) (cI cC cW : ClassId) (t : Nat → Nat) (a : Nat → Nat) (sz : Nat) (N : Nat → Int32) (Z : Nat → Nat → Int32) (x2 x4 : Int32) (ha : 0 ≤ x2.toInt) (ha2 : x2.toInt ≤ 708) (hq : 0 ≤ x4.toInt) (hq2 : x4.toInt ≤ 0) : Met l yX6_copies wsX6_copies ({ frames := 0, cells := 0, slots := 0, locals := 0 }) (va_Pc [.ref (a 2), .int x2, .ref (a 1), .int x4] (rwP D (tyL cI cC cW) (md cI a N Z) t sz)) (va_Qv (fun (u : Nat → Int32) => u = sp_X6_copies21 N Z x2 x4) (fun u => rwB D (va_A (md cI a N Z) sz) (md cI a u Z)) (va_A (md cI a N Z) sz)) 0 0 (va_A (md cI a N Z) sz) := by
  refine Met.ofW (cc := cX6_copies) (maxL := 5) (ret := none) (by decide) rfl ?_
  intro p e s m args below meth c s₁ B hml hv
  obtain ⟨rfl, hsz, hP, hK, hD0, hX⟩ := hv
  have hx := B.exec
  have hb := B.bytes
  have hr := B.returns
  have hts := atoms_spec (ws := wsX6_copies) B.pre
  have hown : s.vm.findClass RX6 = some m.cls := findClass_of_methodNamed B.named
  have hlocks := B.notSynchronized
  subst hsz
  have hD := hD0.self (sz := s.heap.size)
  generalize hAe : va_A (md cI a N Z) s.heap.size = A at hD hX ⊢
  have hA : ∀ q : Nat, s.heap.size ≤ q → A q := fun q h => by rw [← hAe]; exact Or.inr h
  have hS : va_S A s.heap s.heap [] := va_S.rf
  have hl := lv_entry ([.ref (a 2), .int x2, .ref (a 1), .int x4]) (n := 5) (Nat.le_of_ble_eq_true rfl)
  rw [lg_entry_eq]
  generalize (lg_sl ([.ref (a 2), .int x2, .ref (a 1), .int x4]) ++ List.replicate (5 - (lg_sl ([.ref (a 2), .int x2, .ref (a 1), .int x4])).length) Slot.unset).toArray = ls at hl ⊢
  have hl : lv_has ls 5 [(0, .ref (a 2)), (1, .int x2), (2, .ref (a 1)), (3, .int x4)] := hl
  refine lv_iconst (v := 0) hx hb dX6_copies_0 (by decide) ?_
  refine lv_istore (lv' := [(4, .int _), (0, .ref _), (1, .int _), (2, .ref _), (3, .int _)]) hx hb dX6_copies_1 hl (by decide) rfl (fun ls hl => ?_)
  have L3 : ∀ (n3 : Nat) (v4 : Int32) (Nw : Nat → Int32), (0 ≤ v4.toInt) → (v4.toInt ≤ (236 : Int32).toInt) → ((236 : Int32).toInt - v4.toInt < (n3 : Int)) → sp_X6_copies21 N Z x2 x4 = lp3_X6_copies21 Z x2 x4 (n3) v4 Nw → ∀ (ls : Array Slot), lv_has ls 5 [(4, .int v4), (0, .ref (a 2)), (1, .int x2), (2, .ref (a 1)), (3, .int x4)] → ∀ (H : Heap) (locs : List Loc), va_P D vwCl (md cI a Nw Z) H → va_D A (md cI a Nw Z) → va_S A s.heap H locs → W p l e (headSpec wsX6_copies ({ frames := 0, cells := 0, slots := 0, locals := 0 } : Room)).room s m [.ref (a 2), .int x2, .ref (a 1), .int x4].toArray below meth c H locs 0 0 (MQ below (va_Qv (fun (u : Nat → Int32) => u = sp_X6_copies21 N Z x2 x4) (fun u => rwB D A (md cI a u Z)) A) [.ref (a 2), .int x2, .ref (a 1), .int x4].toArray s 0 0 A) (F0 m 3 ls []) := by
    intro n3
    induction n3 with
    | zero => intro v4 Nw i1 i2 im; exfalso; omega
    | succ n3 ih3 =>
      intro v4 Nw i1 i2 im hsp3 ls hl H locs hP hD hS
      refine lv_iload hx hb dX6_copies_3 (lv_at hl 0 rfl) ?_
      refine lv_sipush (v := 236) hx hb dX6_copies_5 (by decide) ?_
      refine lv_icmp_ge (tgt := 29) hx hb dX6_copies_8 (by decide) (fun c8 => ?_) (fun c8 => ?_)
      · exact rw_vret _ hx hb hr hP hD hS (Eq.trans hsp3 (Eq.trans (lp3_X6_copies21_s _ _ _ _ _ _) (Eq.trans (if_pos c8) (rfl)))) dX6_copies_29 hlocks
      · refine lv_aload_n hx hb dX6_copies_11 rfl (lv_at hl 3 rfl) ?_
        refine lv_iload_n hx hb dX6_copies_12 rfl (lv_at hl 4 rfl) ?_
        refine lv_iload hx hb dX6_copies_13 (lv_at hl 0 rfl) ?_
        refine lv_iadd hx hb dX6_copies_15 ?_
        refine lv_aload_n hx hb dX6_copies_16 rfl (lv_at hl 1 rfl) ?_
        refine lv_iload_n hx hb dX6_copies_17 rfl (lv_at hl 2 rfl) ?_
        refine lv_iload hx hb dX6_copies_18 (lv_at hl 0 rfl) ?_
        refine lv_iadd hx hb dX6_copies_20 ?_
        refine va_iald hx hb hK hP 2 0 md_2 rfl (cpin (b := 708) ha ha2 (by decide) (by decide) i1 c8) dX6_copies_21 ?_
        refine my_iast hx hb hK hP hD hS 1 0 md_1 rfl (md_s1 _ _) (cpin (b := 0) hq hq2 (by decide) (by decide) i1 c8) dX6_copies_22 (fun H locs hP hD hS => ?_)
        refine lv_iinc (v := _ + (1 : Int32)) (lv' := [(4, .int _), (0, .ref _), (1, .int _), (2, .ref _), (3, .int _)]) hx hb dX6_copies_23 hl (k := 0) rfl rfl (by decide) rfl (fun ls hl => ?_)
        refine lv_goto (tgt := 3) hx hb dX6_copies_26 (by decide) ?_
        exact ih3 _ _ (cs1 i1 c8) (cs2 c8) (csm c8 im) (Eq.trans hsp3 (Eq.trans (lp3_X6_copies21_s _ _ _ _ _ _) (Eq.trans (if_neg c8) (rfl)))) _ (lv_sub hl [0, 1, 2, 3, 4] rfl) _ _ hP hD hS
  exact L3 237 _ _ (by decide) (by decide) (by decide) (rfl) _ (lv_sub hl [0, 1, 2, 3, 4] rfl) _ _ hP hD hS

def lp3_X6_copies13 (N : Nat → Int32) (x2 x4 : Int32) : Nat → Int32 → (Nat → Nat → Int32) → Nat → Nat → Int32
  | 0, v4, Zw => Zw
  | n + 1, v4, Zw => if (236 : Int32) ≤ v4 then (Zw) else (let Z101 : Nat → Nat → Int32 := zu Zw 2 (ix (x4 + v4)) (N ((ix (x2 + v4)))); lp3_X6_copies13 N x2 x4 n (v4 + (1 : Int32)) Z101)
theorem lp3_X6_copies13_s (N : Nat → Int32) (x2 x4 : Int32) (n : Nat) (v4 : Int32) (Zw : Nat → Nat → Int32) : lp3_X6_copies13 N x2 x4 (n + 1) v4 Zw = if (236 : Int32) ≤ v4 then (Zw) else (let Z101 : Nat → Nat → Int32 := zu Zw 2 (ix (x4 + v4)) (N ((ix (x2 + v4)))); lp3_X6_copies13 N x2 x4 n (v4 + (1 : Int32)) Z101) := rfl
def sp_X6_copies13 (N : Nat → Int32) (Z : Nat → Nat → Int32) (x2 x4 : Int32) : Nat → Nat → Int32 :=
  lp3_X6_copies13 N x2 x4 237 (0 : Int32) Z
set_option maxHeartbeats 4000000 in
set_option maxRecDepth 100000 in
theorem c_X6_copies13 (l : Launch) (D : va_G) (cI cC cW : ClassId) (t : Nat → Nat) (a : Nat → Nat) (sz : Nat) (N : Nat → Int32) (Z : Nat → Nat → Int32) (x2 x4 : Int32) (ha : 0 ≤ x2.toInt) (ha2 : x2.toInt ≤ 0) (hq : 0 ≤ x4.toInt) (hq2 : x4.toInt ≤ 0) : Met l yX6_copies wsX6_copies ({ frames := 0, cells := 0, slots := 0, locals := 0 }) (va_Pc [.ref (a 1), .int x2, .ref (a 3), .int x4] (rwP D (tyL cI cC cW) (md cI a N Z) t sz)) (va_Qv (fun (u : Nat → Nat → Int32) => u = sp_X6_copies13 N Z x2 x4) (fun u => rwB D (va_A (md cI a N Z) sz) (md cI a N u)) (va_A (md cI a N Z) sz)) 0 0 (va_A (md cI a N Z) sz) := by
  refine Met.ofW (cc := cX6_copies) (maxL := 5) (ret := none) (by decide) rfl ?_
  intro p e s m args below meth c s₁ B hml hv
  obtain ⟨rfl, hsz, hP, hK, hD0, hX⟩ := hv
  have hx := B.exec
  have hb := B.bytes
  have hr := B.returns
  have hts := atoms_spec (ws := wsX6_copies) B.pre
  have hown : s.vm.findClass RX6 = some m.cls := findClass_of_methodNamed B.named
  have hlocks := B.notSynchronized
  subst hsz
  have hD := hD0.self (sz := s.heap.size)
  generalize hAe : va_A (md cI a N Z) s.heap.size = A at hD hX ⊢
  have hA : ∀ q : Nat, s.heap.size ≤ q → A q := fun q h => by rw [← hAe]; exact Or.inr h
  have hS : va_S A s.heap s.heap [] := va_S.rf
  have hl := lv_entry ([.ref (a 1), .int x2, .ref (a 3), .int x4]) (n := 5) (Nat.le_of_ble_eq_true rfl)
  rw [lg_entry_eq]
  generalize (lg_sl ([.ref (a 1), .int x2, .ref (a 3), .int x4]) ++ List.replicate (5 - (lg_sl ([.ref (a 1), .int x2, .ref (a 3), .int x4])).length) Slot.unset).toArray = ls at hl ⊢
  have hl : lv_has ls 5 [(0, .ref (a 1)), (1, .int x2), (2, .ref (a 3)), (3, .int x4)] := hl
  refine lv_iconst (v := 0) hx hb dX6_copies_0 (by decide) ?_
  refine lv_istore (lv' := [(4, .int _), (0, .ref _), (1, .int _), (2, .ref _), (3, .int _)]) hx hb dX6_copies_1 hl (by decide) rfl (fun ls hl => ?_)
  have L3 : ∀ (n3 : Nat) (v4 : Int32) (Zw : Nat → Nat → Int32), (0 ≤ v4.toInt) → (v4.toInt ≤ (236 : Int32).toInt) → ((236 : Int32).toInt - v4.toInt < (n3 : Int)) → sp_X6_copies13 N Z x2 x4 = lp3_X6_copies13 N x2 x4 (n3) v4 Zw → ∀ (ls : Array Slot), lv_has ls 5 [(4, .int v4), (0, .ref (a 1)), (1, .int x2), (2, .ref (a 3)), (3, .int x4)] → ∀ (H : Heap) (locs : List Loc), va_P D vwCl (md cI a N Zw) H → va_D A (md cI a N Zw) → va_S A s.heap H locs → W p l e (headSpec wsX6_copies ({ frames := 0, cells := 0, slots := 0, locals := 0 } : Room)).room s m [.ref (a 1), .int x2, .ref (a 3), .int x4].toArray below meth c H locs 0 0 (MQ below (va_Qv (fun (u : Nat → Nat → Int32) => u = sp_X6_copies13 N Z x2 x4) (fun u => rwB D A (md cI a N u)) A) [.ref (a 1), .int x2, .ref (a 3), .int x4].toArray s 0 0 A) (F0 m 3 ls []) := by
    intro n3
    induction n3 with
    | zero => intro v4 Zw i1 i2 im; exfalso; omega
    | succ n3 ih3 =>
      intro v4 Zw i1 i2 im hsp3 ls hl H locs hP hD hS
      refine lv_iload hx hb dX6_copies_3 (lv_at hl 0 rfl) ?_
      refine lv_sipush (v := 236) hx hb dX6_copies_5 (by decide) ?_
      refine lv_icmp_ge (tgt := 29) hx hb dX6_copies_8 (by decide) (fun c8 => ?_) (fun c8 => ?_)
      · exact rw_vret _ hx hb hr hP hD hS (Eq.trans hsp3 (Eq.trans (lp3_X6_copies13_s _ _ _ _ _ _) (Eq.trans (if_pos c8) (rfl)))) dX6_copies_29 hlocks
      · refine lv_aload_n hx hb dX6_copies_11 rfl (lv_at hl 3 rfl) ?_
        refine lv_iload_n hx hb dX6_copies_12 rfl (lv_at hl 4 rfl) ?_
        refine lv_iload hx hb dX6_copies_13 (lv_at hl 0 rfl) ?_
        refine lv_iadd hx hb dX6_copies_15 ?_
        refine lv_aload_n hx hb dX6_copies_16 rfl (lv_at hl 1 rfl) ?_
        refine lv_iload_n hx hb dX6_copies_17 rfl (lv_at hl 2 rfl) ?_
        refine lv_iload hx hb dX6_copies_18 (lv_at hl 0 rfl) ?_
        refine lv_iadd hx hb dX6_copies_20 ?_
        refine va_iald hx hb hK hP 1 0 md_1 rfl (cpin (b := 0) ha ha2 (by decide) (by decide) i1 c8) dX6_copies_21 ?_
        refine my_iast hx hb hK hP hD hS 3 0 md_3 rfl (md_s3 _ _) (cpin (b := 0) hq hq2 (by decide) (by decide) i1 c8) dX6_copies_22 (fun H locs hP hD hS => ?_)
        refine lv_iinc (v := _ + (1 : Int32)) (lv' := [(4, .int _), (0, .ref _), (1, .int _), (2, .ref _), (3, .int _)]) hx hb dX6_copies_23 hl (k := 0) rfl rfl (by decide) rfl (fun ls hl => ?_)
        refine lv_goto (tgt := 3) hx hb dX6_copies_26 (by decide) ?_
        exact ih3 _ _ (cs1 i1 c8) (cs2 c8) (csm c8 im) (Eq.trans hsp3 (Eq.trans (lp3_X6_copies13_s _ _ _ _ _ _) (Eq.trans (if_neg c8) (rfl)))) _ (lv_sub hl [0, 1, 2, 3, 4] rfl) _ _ hP hD hS
  exact L3 237 _ _ (by decide) (by decide) (by decide) (rfl) _ (lv_sub hl [0, 1, 2, 3, 4] rfl) _ _ hP hD hS

def lp3_X6_copies31 (Z : Nat → Nat → Int32) (x2 x4 : Int32) : Nat → Int32 → (Nat → Int32) → Nat → Int32
  | 0, v4, Nw => Nw
  | n + 1, v4, Nw => if (236 : Int32) ≤ v4 then (Nw) else (let N101 : Nat → Int32 := upd Nw ((ix (x4 + v4))) (Z 2 (ix (x2 + v4))); lp3_X6_copies31 Z x2 x4 n (v4 + (1 : Int32)) N101)
theorem lp3_X6_copies31_s (Z : Nat → Nat → Int32) (x2 x4 : Int32) (n : Nat) (v4 : Int32) (Nw : Nat → Int32) : lp3_X6_copies31 Z x2 x4 (n + 1) v4 Nw = if (236 : Int32) ≤ v4 then (Nw) else (let N101 : Nat → Int32 := upd Nw ((ix (x4 + v4))) (Z 2 (ix (x2 + v4))); lp3_X6_copies31 Z x2 x4 n (v4 + (1 : Int32)) N101) := rfl
def sp_X6_copies31 (N : Nat → Int32) (Z : Nat → Nat → Int32) (x2 x4 : Int32) : Nat → Int32 :=
  lp3_X6_copies31 Z x2 x4 237 (0 : Int32) N
set_option maxHeartbeats 4000000 in
set_option maxRecDepth 100000 in
theorem c_X6_copies31 (l : Launch) (D : va_G) (cI cC cW : ClassId) (t : Nat → Nat) (a : Nat → Nat) (sz : Nat) (N : Nat → Int32) (Z : Nat → Nat → Int32) (x2 x4 : Int32) (ha : 0 ≤ x2.toInt) (ha2 : x2.toInt ≤ 0) (hq : 0 ≤ x4.toInt) (hq2 : x4.toInt ≤ 0) : Met l yX6_copies wsX6_copies ({ frames := 0, cells := 0, slots := 0, locals := 0 }) (va_Pc [.ref (a 3), .int x2, .ref (a 1), .int x4] (rwP D (tyL cI cC cW) (md cI a N Z) t sz)) (va_Qv (fun (u : Nat → Int32) => u = sp_X6_copies31 N Z x2 x4) (fun u => rwB D (va_A (md cI a N Z) sz) (md cI a u Z)) (va_A (md cI a N Z) sz)) 0 0 (va_A (md cI a N Z) sz) := by
  refine Met.ofW (cc := cX6_copies) (maxL := 5) (ret := none) (by decide) rfl ?_
  intro p e s m args below meth c s₁ B hml hv
  obtain ⟨rfl, hsz, hP, hK, hD0, hX⟩ := hv
  have hx := B.exec
  have hb := B.bytes
  have hr := B.returns
  have hts := atoms_spec (ws := wsX6_copies) B.pre
  have hown : s.vm.findClass RX6 = some m.cls := findClass_of_methodNamed B.named
  have hlocks := B.notSynchronized
  subst hsz
  have hD := hD0.self (sz := s.heap.size)
  generalize hAe : va_A (md cI a N Z) s.heap.size = A at hD hX ⊢
  have hA : ∀ q : Nat, s.heap.size ≤ q → A q := fun q h => by rw [← hAe]; exact Or.inr h
  have hS : va_S A s.heap s.heap [] := va_S.rf
  have hl := lv_entry ([.ref (a 3), .int x2, .ref (a 1), .int x4]) (n := 5) (Nat.le_of_ble_eq_true rfl)
  rw [lg_entry_eq]
  generalize (lg_sl ([.ref (a 3), .int x2, .ref (a 1), .int x4]) ++ List.replicate (5 - (lg_sl ([.ref (a 3), .int x2, .ref (a 1), .int x4])).length) Slot.unset).toArray = ls at hl ⊢
  have hl : lv_has ls 5 [(0, .ref (a 3)), (1, .int x2), (2, .ref (a 1)), (3, .int x4)] := hl
  refine lv_iconst (v := 0) hx hb dX6_copies_0 (by decide) ?_
  refine lv_istore (lv' := [(4, .int _), (0, .ref _), (1, .int _), (2, .ref _), (3, .int _)]) hx hb dX6_copies_1 hl (by decide) rfl (fun ls hl => ?_)
  have L3 : ∀ (n3 : Nat) (v4 : Int32) (Nw : Nat → Int32), (0 ≤ v4.toInt) → (v4.toInt ≤ (236 : Int32).toInt) → ((236 : Int32).toInt - v4.toInt < (n3 : Int)) → sp_X6_copies31 N Z x2 x4 = lp3_X6_copies31 Z x2 x4 (n3) v4 Nw → ∀ (ls : Array Slot), lv_has ls 5 [(4, .int v4), (0, .ref (a 3)), (1, .int x2), (2, .ref (a 1)), (3, .int x4)] → ∀ (H : Heap) (locs : List Loc), va_P D vwCl (md cI a Nw Z) H → va_D A (md cI a Nw Z) → va_S A s.heap H locs → W p l e (headSpec wsX6_copies ({ frames := 0, cells := 0, slots := 0, locals := 0 } : Room)).room s m [.ref (a 3), .int x2, .ref (a 1), .int x4].toArray below meth c H locs 0 0 (MQ below (va_Qv (fun (u : Nat → Int32) => u = sp_X6_copies31 N Z x2 x4) (fun u => rwB D A (md cI a u Z)) A) [.ref (a 3), .int x2, .ref (a 1), .int x4].toArray s 0 0 A) (F0 m 3 ls []) := by
    intro n3
    induction n3 with
    | zero => intro v4 Nw i1 i2 im; exfalso; omega
    | succ n3 ih3 =>
      intro v4 Nw i1 i2 im hsp3 ls hl H locs hP hD hS
      refine lv_iload hx hb dX6_copies_3 (lv_at hl 0 rfl) ?_
      refine lv_sipush (v := 236) hx hb dX6_copies_5 (by decide) ?_
      refine lv_icmp_ge (tgt := 29) hx hb dX6_copies_8 (by decide) (fun c8 => ?_) (fun c8 => ?_)
      · exact rw_vret _ hx hb hr hP hD hS (Eq.trans hsp3 (Eq.trans (lp3_X6_copies31_s _ _ _ _ _ _) (Eq.trans (if_pos c8) (rfl)))) dX6_copies_29 hlocks
      · refine lv_aload_n hx hb dX6_copies_11 rfl (lv_at hl 3 rfl) ?_
        refine lv_iload_n hx hb dX6_copies_12 rfl (lv_at hl 4 rfl) ?_
        refine lv_iload hx hb dX6_copies_13 (lv_at hl 0 rfl) ?_
        refine lv_iadd hx hb dX6_copies_15 ?_
        refine lv_aload_n hx hb dX6_copies_16 rfl (lv_at hl 1 rfl) ?_
        refine lv_iload_n hx hb dX6_copies_17 rfl (lv_at hl 2 rfl) ?_
        refine lv_iload hx hb dX6_copies_18 (lv_at hl 0 rfl) ?_
        refine lv_iadd hx hb dX6_copies_20 ?_
        refine va_iald hx hb hK hP 3 0 md_3 rfl (cpin (b := 0) ha ha2 (by decide) (by decide) i1 c8) dX6_copies_21 ?_
        refine my_iast hx hb hK hP hD hS 1 0 md_1 rfl (md_s1 _ _) (cpin (b := 0) hq hq2 (by decide) (by decide) i1 c8) dX6_copies_22 (fun H locs hP hD hS => ?_)
        refine lv_iinc (v := _ + (1 : Int32)) (lv' := [(4, .int _), (0, .ref _), (1, .int _), (2, .ref _), (3, .int _)]) hx hb dX6_copies_23 hl (k := 0) rfl rfl (by decide) rfl (fun ls hl => ?_)
        refine lv_goto (tgt := 3) hx hb dX6_copies_26 (by decide) ?_
        exact ih3 _ _ (cs1 i1 c8) (cs2 c8) (csm c8 im) (Eq.trans hsp3 (Eq.trans (lp3_X6_copies31_s _ _ _ _ _ _) (Eq.trans (if_neg c8) (rfl)))) _ (lv_sub hl [0, 1, 2, 3, 4] rfl) _ _ hP hD hS
  exact L3 237 _ _ (by decide) (by decide) (by decide) (rfl) _ (lv_sub hl [0, 1, 2, 3, 4] rfl) _ _ hP hD hS
