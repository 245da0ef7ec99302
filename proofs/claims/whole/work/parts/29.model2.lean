/-! the model: states, best, sorting, numbers, the public calls (printed by wip/whole/m6.py) -/
def lp10_X6_records (N : Nat → Int32) : Nat → Int32 → (Nat → Nat → Int32) → Nat → Nat → Int32
  | 0, v1, Zw => Zw
  | n + 1, v1, Zw => if (708 : Int32) ≤ v1 then (let Z101 : Nat → Nat → Int32 := zu Zw 0 0 (3 : Int32); let k61_102 : Nat → Nat → Int32 := sp_X6_copies12 N Z101 (0 : Int32) ((Z101 0 0) * (236 : Int32)); let Z103 : Nat → Nat → Int32 := zu k61_102 0 0 ((k61_102 0 0) + (1 : Int32)); Z103) else (let Z101 : Nat → Nat → Int32 := zu Zw 1 (ix v1) (Zw 1 (ix (v1 + (236 : Int32)))); lp10_X6_records N n (v1 + (1 : Int32)) Z101)
theorem lp10_X6_records_s (N : Nat → Int32) (n : Nat) (v1 : Int32) (Zw : Nat → Nat → Int32) : lp10_X6_records N (n + 1) v1 Zw = if (708 : Int32) ≤ v1 then (let Z101 : Nat → Nat → Int32 := zu Zw 0 0 (3 : Int32); let k61_102 : Nat → Nat → Int32 := sp_X6_copies12 N Z101 (0 : Int32) ((Z101 0 0) * (236 : Int32)); let Z103 : Nat → Nat → Int32 := zu k61_102 0 0 ((k61_102 0 0) + (1 : Int32)); Z103) else (let Z101 : Nat → Nat → Int32 := zu Zw 1 (ix v1) (Zw 1 (ix (v1 + (236 : Int32)))); lp10_X6_records N n (v1 + (1 : Int32)) Z101) := rfl
def sp_X6_records (N : Nat → Int32) (Z : Nat → Nat → Int32) : Nat → Nat → Int32 :=
  if (Z 0 0) = (4 : Int32) then (lp10_X6_records N 709 (0 : Int32) Z) else (let k61_1 : Nat → Nat → Int32 := sp_X6_copies12 N Z (0 : Int32) ((Z 0 0) * (236 : Int32)); let Z2 : Nat → Nat → Int32 := zu k61_1 0 0 ((k61_1 0 0) + (1 : Int32)); Z2)
set_option maxHeartbeats 4000000 in
set_option maxRecDepth 100000 in
theorem c_X6_records (l : Launch) (D : va_G) (cI cC cW : ClassId) (t : Nat → Nat) (a : Nat → Nat) (sz : Nat) (N : Nat → Int32) (Z : Nat → Nat → Int32) (hps : psZ Z) : Met l yX6_records wsX6_records ({ frames := 1, cells := 0, slots := 0, locals := 24 }) (va_Pc [.ref (a 0)] (rwP D (tyL cI cC cW) (md cI a N Z) t sz)) (va_Qv (fun (u : Nat → Nat → Int32) => u = sp_X6_records N Z) (fun u => rwB D (va_A (md cI a N Z) sz) (md cI a N u)) (va_A (md cI a N Z) sz)) 0 0 (va_A (md cI a N Z) sz) := by
  refine Met.ofW (cc := cX6_records) (maxL := 2) (ret := none) (by decide) rfl ?_
  intro p e s m args below meth c s₁ B hml hv
  obtain ⟨rfl, hsz, hP, hK, hD0, hX⟩ := hv
  have hx := B.exec
  have hb := B.bytes
  have hr := B.returns
  have hts := atoms_spec (ws := wsX6_records) B.pre
  have hown : s.vm.findClass RX6 = some m.cls := findClass_of_methodNamed B.named
  have hlocks := B.notSynchronized
  subst hsz
  have hD := hD0.self (sz := s.heap.size)
  generalize hAe : va_A (md cI a N Z) s.heap.size = A at hD hX ⊢
  have hA : ∀ q : Nat, s.heap.size ≤ q → A q := fun q h => by rw [← hAe]; exact Or.inr h
  have hS : va_S A s.heap s.heap [] := va_S.rf
  have wd1 : (Cond.fieldLink RX6 28 "PickSlotsModel" "pasts" "I").before [.ref (a 0)].toArray s = true := hts _ (List.mem_of_getElem? (i := 1) rfl)
  have wd3 : (Cond.fieldLink RX6 7 "PickSlotsModel" "now" "[I").before [.ref (a 0)].toArray s = true := hts _ (List.mem_of_getElem? (i := 3) rfl)
  have wd2 : (Cond.fieldLink RX6 13 "PickSlotsModel" "past" "[I").before [.ref (a 0)].toArray s = true := hts _ (List.mem_of_getElem? (i := 2) rfl)
  have hi6 : ∀ w ∈ wsX60, w ∈ wsX6_records := fun w h => List.mem_cons_of_mem _ (List.mem_append_right _ (h))
  have CF : CallFix p m c cX6_records 2 s [.ref (a 0)].toArray wsX6_records RX6 := ⟨hx, hb, hml, hown, hts⟩
  have hl := lv_entry ([.ref (a 0)]) (n := 2) (Nat.le_of_ble_eq_true rfl)
  rw [lg_entry_eq]
  generalize (lg_sl ([.ref (a 0)]) ++ List.replicate (2 - (lg_sl ([.ref (a 0)])).length) Slot.unset).toArray = ls at hl ⊢
  have hl : lv_has ls 2 [(0, .ref (a 0))] := hl
  refine lv_aload_n hx hb dX6_records_0 rfl (lv_at hl 0 rfl) ?_
  refine va_get (D := D) (ci := 5) (C := RX6) (T := TX6) (N := 17) hx hb hts hi6 hown hK hP 0 md_0 rfl 2 (by decide) wd1 (fun _ h9 => h9) rfl dX6_records_1 ?_
  refine lv_iconst (v := 4) hx hb dX6_records_4 (by decide) ?_
  refine lv_icmp_ne (tgt := 44) hx hb dX6_records_5 (by decide) (fun c5 => ?_) (fun c5 => ?_)
  · refine lv_aload_n hx hb dX6_records_44 rfl (lv_at hl 0 rfl) ?_
    refine va_get (D := D) (ci := 5) (C := RX6) (T := TX6) (N := 17) hx hb hts hi6 hown hK hP 0 md_0 rfl 0 (by decide) wd3 (fun _ h9 => h9) rfl dX6_records_45 ?_
    refine lv_iconst (v := 0) hx hb dX6_records_48 (by decide) ?_
    refine lv_aload_n hx hb dX6_records_49 rfl (lv_at hl 0 rfl) ?_
    refine va_get (D := D) (ci := 5) (C := RX6) (T := TX6) (N := 17) hx hb hts hi6 hown hK hP 0 md_0 rfl 1 (by decide) wd2 (fun _ h9 => h9) rfl dX6_records_50 ?_
    refine lv_aload_n hx hb dX6_records_53 rfl (lv_at hl 0 rfl) ?_
    refine va_get (D := D) (ci := 5) (C := RX6) (T := TX6) (N := 17) hx hb hts hi6 hown hK hP 0 md_0 rfl 2 (by decide) wd1 (fun _ h9 => h9) rfl dX6_records_54 ?_
    refine lv_sipush (v := 236) hx hb dX6_records_57 (by decide) ?_
    refine lv_imul hx hb dX6_records_60 ?_
    refine rwSv CF (c_X6_copies12 l D cI cC cW t _ _ _ _ _ _ (by decide) (by decide) (by first | exact (ps_mul hps.1 (ps3 hps c5)).1 | (simp only [zu_s, pk_us]; decide)) (by first | exact (ps_mul hps.1 (ps3 hps c5)).2 | (simp only [zu_s, pk_us]; decide))) (va_cwS 4 hts gX6_records_X6_copies rfl rfl rfl (by decide +kernel) ⟨Nat.le_of_ble_eq_true rfl, Nat.le_of_ble_eq_true rfl⟩) hP hD hK hX hS hA rfl hl.1 rfl (Nat.le_of_ble_eq_true rfl) dX6_records_61 ⟨Nat.zero_le _, Nat.zero_le _⟩ (fun H locs hP hD hS => ?_)
    refine lv_aload_n hx hb dX6_records_64 rfl (lv_at hl 0 rfl) ?_
    refine lv_dup hx hb dX6_records_65 rfl ?_
    refine va_get (D := D) (ci := 5) (C := RX6) (T := TX6) (N := 17) hx hb hts hi6 hown hK hP 0 md_0 rfl 2 (by decide) wd1 (fun _ h9 => h9) rfl dX6_records_66 ?_
    refine lv_iconst (v := 1) hx hb dX6_records_69 (by decide) ?_
    refine lv_iadd hx hb dX6_records_70 ?_
    refine my_put (D := D) (ci := 5) (C := RX6) (T := TX6) (N := 17) (ty := .int) hx hb hts hi6 tyX6 tyX6_ok nmX6 hown hK hP hD hS 0 md_0 rfl 2 (by decide) wd1 (fun _ h9 => h9) rfl (by decide +kernel) rfl rfl (Nat.le_of_ble_eq_true rfl) (md_f2 _) dX6_records_71 (fun H locs hP hD hS => ?_)
    exact rw_vret _ hx hb hr hP hD hS (Eq.trans (if_neg c5) (rfl)) dX6_records_74 hlocks
  · refine lv_iconst (v := 0) hx hb dX6_records_8 (by decide) ?_
    refine lv_istore_n (lv' := [(1, .int _), (0, .ref _)]) hx hb dX6_records_9 rfl hl (by decide) rfl (fun ls hl => ?_)
    have L10 : ∀ (n10 : Nat) (v1 : Int32) (Zw : Nat → Nat → Int32), (0 ≤ v1.toInt) → (v1.toInt ≤ (708 : Int32).toInt) → ((708 : Int32).toInt - v1.toInt < (n10 : Int)) → sp_X6_records N Z = lp10_X6_records N (n10) v1 Zw → ∀ (ls : Array Slot), lv_has ls 2 [(1, .int v1), (0, .ref (a 0))] → ∀ (H : Heap) (locs : List Loc), va_P D vwCl (md cI a N Zw) H → va_D A (md cI a N Zw) → va_S A s.heap H locs → W p l e (headSpec wsX6_records ({ frames := 1, cells := 0, slots := 0, locals := 24 } : Room)).room s m [.ref (a 0)].toArray below meth c H locs 0 0 (MQ below (va_Qv (fun (u : Nat → Nat → Int32) => u = sp_X6_records N Z) (fun u => rwB D A (md cI a N u)) A) [.ref (a 0)].toArray s 0 0 A) (F0 m 10 ls []) := by
      intro n10
      induction n10 with
      | zero => intro v1 Zw i1 i2 im; exfalso; omega
      | succ n10 ih10 =>
        intro v1 Zw i1 i2 im hsp10 ls hl H locs hP hD hS
        refine lv_iload_n hx hb dX6_records_10 rfl (lv_at hl 0 rfl) ?_
        refine lv_sipush (v := 708) hx hb dX6_records_11 (by decide) ?_
        refine lv_icmp_ge (tgt := 39) hx hb dX6_records_14 (by decide) (fun c14 => ?_) (fun c14 => ?_)
        · refine lv_aload_n hx hb dX6_records_39 rfl (lv_at hl 1 rfl) ?_
          refine lv_iconst (v := 3) hx hb dX6_records_40 (by decide) ?_
          refine my_put (D := D) (ci := 5) (C := RX6) (T := TX6) (N := 17) (ty := .int) hx hb hts hi6 tyX6 tyX6_ok nmX6 hown hK hP hD hS 0 md_0 rfl 2 (by decide) wd1 (fun _ h9 => h9) rfl (by decide +kernel) rfl rfl (Nat.le_of_ble_eq_true rfl) (md_f2 _) dX6_records_41 (fun H locs hP hD hS => ?_)
          refine lv_aload_n hx hb dX6_records_44 rfl (lv_at hl 1 rfl) ?_
          refine va_get (D := D) (ci := 5) (C := RX6) (T := TX6) (N := 17) hx hb hts hi6 hown hK hP 0 md_0 rfl 0 (by decide) wd3 (fun _ h9 => h9) rfl dX6_records_45 ?_
          refine lv_iconst (v := 0) hx hb dX6_records_48 (by decide) ?_
          refine lv_aload_n hx hb dX6_records_49 rfl (lv_at hl 1 rfl) ?_
          refine va_get (D := D) (ci := 5) (C := RX6) (T := TX6) (N := 17) hx hb hts hi6 hown hK hP 0 md_0 rfl 1 (by decide) wd2 (fun _ h9 => h9) rfl dX6_records_50 ?_
          refine lv_aload_n hx hb dX6_records_53 rfl (lv_at hl 1 rfl) ?_
          refine va_get (D := D) (ci := 5) (C := RX6) (T := TX6) (N := 17) hx hb hts hi6 hown hK hP 0 md_0 rfl 2 (by decide) wd1 (fun _ h9 => h9) rfl dX6_records_54 ?_
          refine lv_sipush (v := 236) hx hb dX6_records_57 (by decide) ?_
          refine lv_imul hx hb dX6_records_60 ?_
          refine rwSv CF (c_X6_copies12 l D cI cC cW t _ _ _ _ _ _ (by decide) (by decide) (by first | exact (ps_mul hps.1 (ps3 hps c5)).1 | (simp only [zu_s, pk_us]; decide)) (by first | exact (ps_mul hps.1 (ps3 hps c5)).2 | (simp only [zu_s, pk_us]; decide))) (va_cwS 4 hts gX6_records_X6_copies rfl rfl rfl (by decide +kernel) ⟨Nat.le_of_ble_eq_true rfl, Nat.le_of_ble_eq_true rfl⟩) hP hD hK hX hS hA rfl hl.1 rfl (Nat.le_of_ble_eq_true rfl) dX6_records_61 ⟨Nat.zero_le _, Nat.zero_le _⟩ (fun H locs hP hD hS => ?_)
          refine lv_aload_n hx hb dX6_records_64 rfl (lv_at hl 1 rfl) ?_
          refine lv_dup hx hb dX6_records_65 rfl ?_
          refine va_get (D := D) (ci := 5) (C := RX6) (T := TX6) (N := 17) hx hb hts hi6 hown hK hP 0 md_0 rfl 2 (by decide) wd1 (fun _ h9 => h9) rfl dX6_records_66 ?_
          refine lv_iconst (v := 1) hx hb dX6_records_69 (by decide) ?_
          refine lv_iadd hx hb dX6_records_70 ?_
          refine my_put (D := D) (ci := 5) (C := RX6) (T := TX6) (N := 17) (ty := .int) hx hb hts hi6 tyX6 tyX6_ok nmX6 hown hK hP hD hS 0 md_0 rfl 2 (by decide) wd1 (fun _ h9 => h9) rfl (by decide +kernel) rfl rfl (Nat.le_of_ble_eq_true rfl) (md_f2 _) dX6_records_71 (fun H locs hP hD hS => ?_)
          exact rw_vret _ hx hb hr hP hD hS (Eq.trans hsp10 (Eq.trans (lp10_X6_records_s _ _ _ _) (Eq.trans (if_pos c14) (rfl)))) dX6_records_74 hlocks
        · refine lv_aload_n hx hb dX6_records_17 rfl (lv_at hl 1 rfl) ?_
          refine va_get (D := D) (ci := 5) (C := RX6) (T := TX6) (N := 17) hx hb hts hi6 hown hK hP 0 md_0 rfl 1 (by decide) wd2 (fun _ h9 => h9) rfl dX6_records_18 ?_
          refine lv_iload_n hx hb dX6_records_21 rfl (lv_at hl 0 rfl) ?_
          refine lv_aload_n hx hb dX6_records_22 rfl (lv_at hl 1 rfl) ?_
          refine va_get (D := D) (ci := 5) (C := RX6) (T := TX6) (N := 17) hx hb hts hi6 hown hK hP 0 md_0 rfl 1 (by decide) wd2 (fun _ h9 => h9) rfl dX6_records_23 ?_
          refine lv_iload_n hx hb dX6_records_26 rfl (lv_at hl 0 rfl) ?_
          refine lv_sipush (v := 236) hx hb dX6_records_27 (by decide) ?_
          refine lv_iadd hx hb dX6_records_30 ?_
          refine va_iald hx hb hK hP 2 0 md_2 rfl (rc2 i1 c14) dX6_records_31 ?_
          refine my_iast hx hb hK hP hD hS 2 0 md_2 rfl (md_s2 _ _) (rc3 i1 c14) dX6_records_32 (fun H locs hP hD hS => ?_)
          refine lv_iinc (v := _ + (1 : Int32)) (lv' := [(1, .int _), (0, .ref _)]) hx hb dX6_records_33 hl (k := 0) rfl rfl (by decide) rfl (fun ls hl => ?_)
          refine lv_goto (tgt := 10) hx hb dX6_records_36 (by decide) ?_
          exact ih10 _ _ (cs1 i1 c14) (cs2 c14) (csm c14 im) (Eq.trans hsp10 (Eq.trans (lp10_X6_records_s _ _ _ _) (Eq.trans (if_neg c14) (rfl)))) _ (lv_sub hl [0, 1] rfl) _ _ hP hD hS
    exact L10 709 _ _ (by decide) (by decide) (by decide) (Eq.trans (if_pos c5) (rfl)) _ (lv_sub hl [0, 1] rfl) _ _ hP hD hS

def lp19_X6_finds (N : Nat → Int32) (v1 : Int32) (K7 : Int32 → (Nat → Nat → Int32) → Nat → Nat → Int32) : Nat → Int32 → (Nat → Nat → Int32) → Nat → Nat → Int32
  | 0, v2, Zw => Zw
  | n + 1, v2, Zw => if (60 : Int32) ≤ v2 then (K7 (v1 + (1 : Int32)) Zw) else (if (sp_X6_of N Zw v1 (6 : Int32)) = v2 then (lp19_X6_finds N v1 K7 n (v2 + (1 : Int32)) Zw) else (if (sp_X6_canGo N Zw v1 v2) = 0 then (lp19_X6_finds N v1 K7 n (v2 + (1 : Int32)) Zw) else (if (sp_X6_goWorth N Zw v1 v2) ≤ (Zw 0 4) then (lp19_X6_finds N v1 K7 n (v2 + (1 : Int32)) Zw) else (let Z202 : Nat → Nat → Int32 := zu Zw 0 2 v1; let Z203 : Nat → Nat → Int32 := zu Z202 0 3 v2; let Z204 : Nat → Nat → Int32 := zu Z203 0 4 (sp_X6_goWorth N Z203 v1 v2); lp19_X6_finds N v1 K7 n (v2 + (1 : Int32)) Z204))))
theorem lp19_X6_finds_s (N : Nat → Int32) (v1 : Int32) (K7 : Int32 → (Nat → Nat → Int32) → Nat → Nat → Int32) (n : Nat) (v2 : Int32) (Zw : Nat → Nat → Int32) : lp19_X6_finds N v1 K7 (n + 1) v2 Zw = if (60 : Int32) ≤ v2 then (K7 (v1 + (1 : Int32)) Zw) else (if (sp_X6_of N Zw v1 (6 : Int32)) = v2 then (lp19_X6_finds N v1 K7 n (v2 + (1 : Int32)) Zw) else (if (sp_X6_canGo N Zw v1 v2) = 0 then (lp19_X6_finds N v1 K7 n (v2 + (1 : Int32)) Zw) else (if (sp_X6_goWorth N Zw v1 v2) ≤ (Zw 0 4) then (lp19_X6_finds N v1 K7 n (v2 + (1 : Int32)) Zw) else (let Z202 : Nat → Nat → Int32 := zu Zw 0 2 v1; let Z203 : Nat → Nat → Int32 := zu Z202 0 3 v2; let Z204 : Nat → Nat → Int32 := zu Z203 0 4 (sp_X6_goWorth N Z203 v1 v2); lp19_X6_finds N v1 K7 n (v2 + (1 : Int32)) Z204)))) := rfl
def lp7_X6_finds (N : Nat → Int32) : Nat → Int32 → (Nat → Nat → Int32) → Nat → Nat → Int32
  | 0, v1, Zw => Zw
  | n + 1, v1, Zw => if (N 0) ≤ v1 then (Zw) else (lp19_X6_finds N v1 (lp7_X6_finds N n) 61 (0 : Int32) Zw)
theorem lp7_X6_finds_s (N : Nat → Int32) (n : Nat) (v1 : Int32) (Zw : Nat → Nat → Int32) : lp7_X6_finds N (n + 1) v1 Zw = if (N 0) ≤ v1 then (Zw) else (lp19_X6_finds N v1 (lp7_X6_finds N n) 61 (0 : Int32) Zw) := rfl
def sp_X6_finds (N : Nat → Int32) (Z : Nat → Nat → Int32) : Nat → Nat → Int32 :=
  let Z1 : Nat → Nat → Int32 := zu Z 0 4 (0 : Int32); lp7_X6_finds N 21 (0 : Int32) Z1
set_option maxHeartbeats 4000000 in
set_option maxRecDepth 100000 in
theorem c_X6_finds (l : Launch) (D : va_G) (cI cC cW : ClassId) (t : Nat → Nat) (a : Nat → Nat) (sz : Nat) (N : Nat → Int32) (Z : Nat → Nat → Int32) (hsf : sfN N) : Met l yX6_finds wsX6_finds ({ frames := 4, cells := 0, slots := 0, locals := 92 }) (va_Pc [.ref (a 0)] (rwP D (tyL cI cC cW) (md cI a N Z) t sz)) (va_Qv (fun (u : Nat → Nat → Int32) => u = sp_X6_finds N Z) (fun u => rwB D (va_A (md cI a N Z) sz) (md cI a N u)) (va_A (md cI a N Z) sz)) 0 0 (va_A (md cI a N Z) sz) := by
  refine Met.ofW (cc := cX6_finds) (maxL := 3) (ret := none) (by decide) rfl ?_
  intro p e s m args below meth c s₁ B hml hv
  obtain ⟨rfl, hsz, hP, hK, hD0, hX⟩ := hv
  have hx := B.exec
  have hb := B.bytes
  have hr := B.returns
  have hts := atoms_spec (ws := wsX6_finds) B.pre
  have hown : s.vm.findClass RX6 = some m.cls := findClass_of_methodNamed B.named
  have hlocks := B.notSynchronized
  subst hsz
  have hD := hD0.self (sz := s.heap.size)
  generalize hAe : va_A (md cI a N Z) s.heap.size = A at hD hX ⊢
  have hA : ∀ q : Nat, s.heap.size ≤ q → A q := fun q h => by rw [← hAe]; exact Or.inr h
  have hS : va_S A s.heap s.heap [] := va_S.rf
  have wd1 : (Cond.fieldLink RX6 137 "PickSlotsModel" "bestWorth" "I").before [.ref (a 0)].toArray s = true := hts _ (List.mem_of_getElem? (i := 1) rfl)
  have wd2 : (Cond.fieldLink RX6 7 "PickSlotsModel" "now" "[I").before [.ref (a 0)].toArray s = true := hts _ (List.mem_of_getElem? (i := 2) rfl)
  have wd3 : (Cond.fieldLink RX6 140 "PickSlotsModel" "bestGood" "I").before [.ref (a 0)].toArray s = true := hts _ (List.mem_of_getElem? (i := 3) rfl)
  have wd4 : (Cond.fieldLink RX6 143 "PickSlotsModel" "bestSlot" "I").before [.ref (a 0)].toArray s = true := hts _ (List.mem_of_getElem? (i := 4) rfl)
  have hi6 : ∀ w ∈ wsX60, w ∈ wsX6_finds := fun w h => List.mem_cons_of_mem _ (List.mem_append_right _ (h))
  have CF : CallFix p m c cX6_finds 3 s [.ref (a 0)].toArray wsX6_finds RX6 := ⟨hx, hb, hml, hown, hts⟩
  have hl := lv_entry ([.ref (a 0)]) (n := 3) (Nat.le_of_ble_eq_true rfl)
  rw [lg_entry_eq]
  generalize (lg_sl ([.ref (a 0)]) ++ List.replicate (3 - (lg_sl ([.ref (a 0)])).length) Slot.unset).toArray = ls at hl ⊢
  have hl : lv_has ls 3 [(0, .ref (a 0))] := hl
  refine lv_aload_n hx hb dX6_finds_0 rfl (lv_at hl 0 rfl) ?_
  refine lv_iconst (v := 0) hx hb dX6_finds_1 (by decide) ?_
  refine my_put (D := D) (ci := 5) (C := RX6) (T := TX6) (N := 17) (ty := .int) hx hb hts hi6 tyX6 tyX6_ok nmX6 hown hK hP hD hS 0 md_0 rfl 8 (by decide) wd1 (fun _ h9 => h9) rfl (by decide +kernel) rfl rfl (Nat.le_of_ble_eq_true rfl) (md_f8 _) dX6_finds_2 (fun H locs hP hD hS => ?_)
  refine lv_iconst (v := 0) hx hb dX6_finds_5 (by decide) ?_
  refine lv_istore_n (lv' := [(1, .int _), (0, .ref _)]) hx hb dX6_finds_6 rfl hl (by decide) rfl (fun ls hl => ?_)
  have L7 : ∀ (n7 : Nat) (v1 : Int32) (Zw : Nat → Nat → Int32), (0 ≤ v1.toInt) → (v1.toInt ≤ (N 0).toInt) → ((N 0).toInt - v1.toInt < (n7 : Int)) → sp_X6_finds N Z = lp7_X6_finds N (n7) v1 Zw → ∀ (ls : Array Slot), lv_has ls 3 [(1, .int v1), (0, .ref (a 0))] → ∀ (H : Heap) (locs : List Loc), va_P D vwCl (md cI a N Zw) H → va_D A (md cI a N Zw) → va_S A s.heap H locs → W p l e (headSpec wsX6_finds ({ frames := 4, cells := 0, slots := 0, locals := 92 } : Room)).room s m [.ref (a 0)].toArray below meth c H locs 0 0 (MQ below (va_Qv (fun (u : Nat → Nat → Int32) => u = sp_X6_finds N Z) (fun u => rwB D A (md cI a N u)) A) [.ref (a 0)].toArray s 0 0 A) (F0 m 7 ls []) := by
    intro n7
    induction n7 with
    | zero => intro v1 Zw i1 i2 im; exfalso; omega
    | succ n7 ih7 =>
      intro v1 Zw i1 i2 im hsp7 ls hl H locs hP hD hS
      refine lv_iload_n hx hb dX6_finds_7 rfl (lv_at hl 0 rfl) ?_
      refine lv_aload_n hx hb dX6_finds_8 rfl (lv_at hl 1 rfl) ?_
      refine va_get (D := D) (ci := 5) (C := RX6) (T := TX6) (N := 17) hx hb hts hi6 hown hK hP 0 md_0 rfl 0 (by decide) wd2 (fun _ h9 => h9) rfl dX6_finds_9 ?_
      refine lv_iconst (v := 0) hx hb dX6_finds_12 (by decide) ?_
      refine my_ialdK (k := 0) hx hb hK hP 1 0 md_1 rfl (by decide) (by first | (with_reducible first | assumption | exact m20 (by assumption) (by assumption) | exact ga20 (by assumption) (by assumption) | exact w2 (by assumption) | exact w2 (min4 (by assumption)) | exact w2 (s46 (by assumption)) | exact min4 (by assumption) | exact s46 (by assumption) | exact min11 (by assumption) (by assumption)) | (unfold vp_in; decide) | ((with_reducible (repeat (first | assumption | (refine sf_lays ?_ ?_ ?_; (with_reducible first | assumption | exact m20 (by assumption) (by assumption) | exact ga20 (by assumption) (by assumption)); (with_reducible first | exact v11_0 | exact v11_1 | exact v11_6 | exact v11_7 | exact v11_8 | exact v11_9 | exact v11_10 | exact w2 (by assumption) | exact w2 (min4 (by assumption)))) | (refine sf_adds ?_ ?_; (with_reducible first | exact v8_0 | exact v8_1 | exact v8_2 | exact v8_3 | exact v8_4 | exact v8_5 | exact v8_6 | exact v8_7)) | (refine sf_u (by omega) ?_)))); done)) dX6_finds_13 ?_
      refine lv_icmp_ge (tgt := 90) hx hb dX6_finds_14 (by decide) (fun c14 => ?_) (fun c14 => ?_)
      · exact rw_vret _ hx hb hr hP hD hS (Eq.trans hsp7 (Eq.trans (lp7_X6_finds_s _ _ _ _) (Eq.trans (if_pos c14) (rfl)))) dX6_finds_90 hlocks
      · have hv : vp_in v1 20 := cnin20 hsf i1 c14
        refine lv_iconst (v := 0) hx hb dX6_finds_17 (by decide) ?_
        refine lv_istore_n (lv' := [(2, .int _), (1, .int _), (0, .ref _)]) hx hb dX6_finds_18 rfl hl (by decide) rfl (fun ls hl => ?_)
        have L19 : ∀ (n19 : Nat) (v2 : Int32) (Zw : Nat → Nat → Int32), (0 ≤ v2.toInt) → (v2.toInt ≤ (60 : Int32).toInt) → ((60 : Int32).toInt - v2.toInt < (n19 : Int)) → sp_X6_finds N Z = lp19_X6_finds N v1 (lp7_X6_finds N n7) (n19) v2 Zw → ∀ (ls : Array Slot), lv_has ls 3 [(2, .int v2), (1, .int v1), (0, .ref (a 0))] → ∀ (H : Heap) (locs : List Loc), va_P D vwCl (md cI a N Zw) H → va_D A (md cI a N Zw) → va_S A s.heap H locs → W p l e (headSpec wsX6_finds ({ frames := 4, cells := 0, slots := 0, locals := 92 } : Room)).room s m [.ref (a 0)].toArray below meth c H locs 0 0 (MQ below (va_Qv (fun (u : Nat → Nat → Int32) => u = sp_X6_finds N Z) (fun u => rwB D A (md cI a N u)) A) [.ref (a 0)].toArray s 0 0 A) (F0 m 19 ls []) := by
          intro n19
          induction n19 with
          | zero => intro v2 Zw j1 j2 jm; exfalso; omega
          | succ n19 ih19 =>
            intro v2 Zw j1 j2 jm hsp19 ls hl H locs hP hD hS
            refine lv_iload_n hx hb dX6_finds_19 rfl (lv_at hl 0 rfl) ?_
            refine lv_bipush (v := 60) hx hb dX6_finds_20 (by decide) ?_
            refine lv_icmp_ge (tgt := 84) hx hb dX6_finds_22 (by decide) (fun c22 => ?_) (fun c22 => ?_)
            · refine lv_iinc (v := _ + (1 : Int32)) (lv' := [(1, .int _), (2, .int _), (0, .ref _)]) hx hb dX6_finds_84 hl (k := 1) rfl rfl (by decide) rfl (fun ls hl => ?_)
              refine lv_goto (tgt := 7) hx hb dX6_finds_87 (by decide) ?_
              exact ih7 _ _ (cs1 i1 c14) (cs2 c14) (csm c14 im) (Eq.trans hsp19 (Eq.trans (lp19_X6_finds_s _ _ _ _ _ _) (Eq.trans (if_pos c22) (rfl)))) _ (lv_sub hl [0, 2] rfl) _ _ hP hD hS
            · refine lv_aload_n hx hb dX6_finds_25 rfl (lv_at hl 2 rfl) ?_
              refine lv_iload_n hx hb dX6_finds_26 rfl (lv_at hl 1 rfl) ?_
              refine lv_bipush (v := 6) hx hb dX6_finds_27 (by decide) ?_
              refine roV CF (c_X6_of l D cI cC cW t _ _ _ _ _ (by first | (with_reducible first | assumption | exact m20 (by assumption) (by assumption) | exact ga20 (by assumption) (by assumption) | exact w2 (by assumption) | exact w2 (min4 (by assumption)) | exact w2 (s46 (by assumption)) | exact min4 (by assumption) | exact s46 (by assumption) | exact min11 (by assumption) (by assumption)) | (unfold vp_in; decide) | ((with_reducible (repeat (first | assumption | (refine sf_lays ?_ ?_ ?_; (with_reducible first | assumption | exact m20 (by assumption) (by assumption) | exact ga20 (by assumption) (by assumption)); (with_reducible first | exact v11_0 | exact v11_1 | exact v11_6 | exact v11_7 | exact v11_8 | exact v11_9 | exact v11_10 | exact w2 (by assumption) | exact w2 (min4 (by assumption)))) | (refine sf_adds ?_ ?_; (with_reducible first | exact v8_0 | exact v8_1 | exact v8_2 | exact v8_3 | exact v8_4 | exact v8_5 | exact v8_6 | exact v8_7)) | (refine sf_u (by omega) ?_)))); done)) (by first | (with_reducible first | assumption | exact m20 (by assumption) (by assumption) | exact ga20 (by assumption) (by assumption) | exact w2 (by assumption) | exact w2 (min4 (by assumption)) | exact w2 (s46 (by assumption)) | exact min4 (by assumption) | exact s46 (by assumption) | exact min11 (by assumption) (by assumption)) | (unfold vp_in; decide) | ((with_reducible (repeat (first | assumption | (refine sf_lays ?_ ?_ ?_; (with_reducible first | assumption | exact m20 (by assumption) (by assumption) | exact ga20 (by assumption) (by assumption)); (with_reducible first | exact v11_0 | exact v11_1 | exact v11_6 | exact v11_7 | exact v11_8 | exact v11_9 | exact v11_10 | exact w2 (by assumption) | exact w2 (min4 (by assumption)))) | (refine sf_adds ?_ ?_; (with_reducible first | exact v8_0 | exact v8_1 | exact v8_2 | exact v8_3 | exact v8_4 | exact v8_5 | exact v8_6 | exact v8_7)) | (refine sf_u (by omega) ?_)))); done))) (cwV 2 hts gX6_finds_X6_of rfl rfl rfl (by decide +kernel) ⟨Nat.le_of_ble_eq_true rfl, Nat.le_of_ble_eq_true rfl⟩) hP hK hX hS 0 5 md_0 rfl rfl hl.1 rfl (Nat.le_of_ble_eq_true rfl) dX6_finds_29 ⟨Nat.zero_le _, Nat.zero_le _⟩ ?_
              refine lv_iload_n hx hb dX6_finds_32 rfl (lv_at hl 0 rfl) ?_
              refine lv_icmp_eq (tgt := 78) hx hb dX6_finds_33 (by decide) (fun c33 => ?_) (fun c33 => ?_)
              · refine lv_iinc (v := _ + (1 : Int32)) (lv' := [(2, .int _), (1, .int _), (0, .ref _)]) hx hb dX6_finds_78 hl (k := 0) rfl rfl (by decide) rfl (fun ls hl => ?_)
                refine lv_goto (tgt := 19) hx hb dX6_finds_81 (by decide) ?_
                exact ih19 _ _ (cs1 j1 c22) (cs2 c22) (csm c22 jm) (Eq.trans hsp19 (Eq.trans (lp19_X6_finds_s _ _ _ _ _ _) (Eq.trans (if_neg c22) (Eq.trans (if_pos c33) (rfl))))) _ (lv_sub hl [0, 1, 2] rfl) _ _ hP hD hS
              · refine lv_aload_n hx hb dX6_finds_36 rfl (lv_at hl 2 rfl) ?_
                refine lv_iload_n hx hb dX6_finds_37 rfl (lv_at hl 1 rfl) ?_
                refine lv_iload_n hx hb dX6_finds_38 rfl (lv_at hl 0 rfl) ?_
                refine roV CF (c_X6_canGo l D cI cC cW t _ _ _ _ _ (by first | (with_reducible first | assumption | exact m20 (by assumption) (by assumption) | exact ga20 (by assumption) (by assumption) | exact w2 (by assumption) | exact w2 (min4 (by assumption)) | exact w2 (s46 (by assumption)) | exact min4 (by assumption) | exact s46 (by assumption) | exact min11 (by assumption) (by assumption)) | (unfold vp_in; decide) | ((with_reducible (repeat (first | assumption | (refine sf_lays ?_ ?_ ?_; (with_reducible first | assumption | exact m20 (by assumption) (by assumption) | exact ga20 (by assumption) (by assumption)); (with_reducible first | exact v11_0 | exact v11_1 | exact v11_6 | exact v11_7 | exact v11_8 | exact v11_9 | exact v11_10 | exact w2 (by assumption) | exact w2 (min4 (by assumption)))) | (refine sf_adds ?_ ?_; (with_reducible first | exact v8_0 | exact v8_1 | exact v8_2 | exact v8_3 | exact v8_4 | exact v8_5 | exact v8_6 | exact v8_7)) | (refine sf_u (by omega) ?_)))); done)) (by first | (with_reducible first | assumption | exact m20 (by assumption) (by assumption) | exact ga20 (by assumption) (by assumption) | exact w2 (by assumption) | exact w2 (min4 (by assumption)) | exact w2 (s46 (by assumption)) | exact min4 (by assumption) | exact s46 (by assumption) | exact min11 (by assumption) (by assumption)) | (unfold vp_in; decide) | ((with_reducible (repeat (first | assumption | (refine sf_lays ?_ ?_ ?_; (with_reducible first | assumption | exact m20 (by assumption) (by assumption) | exact ga20 (by assumption) (by assumption)); (with_reducible first | exact v11_0 | exact v11_1 | exact v11_6 | exact v11_7 | exact v11_8 | exact v11_9 | exact v11_10 | exact w2 (by assumption) | exact w2 (min4 (by assumption)))) | (refine sf_adds ?_ ?_; (with_reducible first | exact v8_0 | exact v8_1 | exact v8_2 | exact v8_3 | exact v8_4 | exact v8_5 | exact v8_6 | exact v8_7)) | (refine sf_u (by omega) ?_)))); done))) (cwV 2 hts gX6_finds_X6_canGo rfl rfl rfl (by decide +kernel) ⟨Nat.le_of_ble_eq_true rfl, Nat.le_of_ble_eq_true rfl⟩) hP hK hX hS 0 5 md_0 rfl rfl hl.1 rfl (Nat.le_of_ble_eq_true rfl) dX6_finds_39 ⟨Nat.zero_le _, Nat.zero_le _⟩ ?_
                refine lv_if_eq (tgt := 78) hx hb dX6_finds_42 (by decide) (fun c42 => ?_) (fun c42 => ?_)
                · refine lv_iinc (v := _ + (1 : Int32)) (lv' := [(2, .int _), (1, .int _), (0, .ref _)]) hx hb dX6_finds_78 hl (k := 0) rfl rfl (by decide) rfl (fun ls hl => ?_)
                  refine lv_goto (tgt := 19) hx hb dX6_finds_81 (by decide) ?_
                  exact ih19 _ _ (cs1 j1 c22) (cs2 c22) (csm c22 jm) (Eq.trans hsp19 (Eq.trans (lp19_X6_finds_s _ _ _ _ _ _) (Eq.trans (if_neg c22) (Eq.trans (if_neg c33) (Eq.trans (if_pos c42) (rfl)))))) _ (lv_sub hl [0, 1, 2] rfl) _ _ hP hD hS
                · refine lv_aload_n hx hb dX6_finds_45 rfl (lv_at hl 2 rfl) ?_
                  refine lv_iload_n hx hb dX6_finds_46 rfl (lv_at hl 1 rfl) ?_
                  refine lv_iload_n hx hb dX6_finds_47 rfl (lv_at hl 0 rfl) ?_
                  refine roV CF (c_X6_goWorth l D cI cC cW t _ _ _ _ _ (by first | (with_reducible first | assumption | exact m20 (by assumption) (by assumption) | exact ga20 (by assumption) (by assumption) | exact w2 (by assumption) | exact w2 (min4 (by assumption)) | exact w2 (s46 (by assumption)) | exact min4 (by assumption) | exact s46 (by assumption) | exact min11 (by assumption) (by assumption)) | (unfold vp_in; decide) | ((with_reducible (repeat (first | assumption | (refine sf_lays ?_ ?_ ?_; (with_reducible first | assumption | exact m20 (by assumption) (by assumption) | exact ga20 (by assumption) (by assumption)); (with_reducible first | exact v11_0 | exact v11_1 | exact v11_6 | exact v11_7 | exact v11_8 | exact v11_9 | exact v11_10 | exact w2 (by assumption) | exact w2 (min4 (by assumption)))) | (refine sf_adds ?_ ?_; (with_reducible first | exact v8_0 | exact v8_1 | exact v8_2 | exact v8_3 | exact v8_4 | exact v8_5 | exact v8_6 | exact v8_7)) | (refine sf_u (by omega) ?_)))); done)) (by first | (with_reducible first | assumption | exact m20 (by assumption) (by assumption) | exact ga20 (by assumption) (by assumption) | exact w2 (by assumption) | exact w2 (min4 (by assumption)) | exact w2 (s46 (by assumption)) | exact min4 (by assumption) | exact s46 (by assumption) | exact min11 (by assumption) (by assumption)) | (unfold vp_in; decide) | ((with_reducible (repeat (first | assumption | (refine sf_lays ?_ ?_ ?_; (with_reducible first | assumption | exact m20 (by assumption) (by assumption) | exact ga20 (by assumption) (by assumption)); (with_reducible first | exact v11_0 | exact v11_1 | exact v11_6 | exact v11_7 | exact v11_8 | exact v11_9 | exact v11_10 | exact w2 (by assumption) | exact w2 (min4 (by assumption)))) | (refine sf_adds ?_ ?_; (with_reducible first | exact v8_0 | exact v8_1 | exact v8_2 | exact v8_3 | exact v8_4 | exact v8_5 | exact v8_6 | exact v8_7)) | (refine sf_u (by omega) ?_)))); done))) (cwV 2 hts gX6_finds_X6_goWorth rfl rfl rfl (by decide +kernel) ⟨Nat.le_of_ble_eq_true rfl, Nat.le_of_ble_eq_true rfl⟩) hP hK hX hS 0 5 md_0 rfl rfl hl.1 rfl (Nat.le_of_ble_eq_true rfl) dX6_finds_48 ⟨Nat.zero_le _, Nat.zero_le _⟩ ?_
                  refine lv_aload_n hx hb dX6_finds_51 rfl (lv_at hl 2 rfl) ?_
                  refine va_get (D := D) (ci := 5) (C := RX6) (T := TX6) (N := 17) hx hb hts hi6 hown hK hP 0 md_0 rfl 8 (by decide) wd1 (fun _ h9 => h9) rfl dX6_finds_52 ?_
                  refine lv_icmp_le (tgt := 78) hx hb dX6_finds_55 (by decide) (fun c55 => ?_) (fun c55 => ?_)
                  · refine lv_iinc (v := _ + (1 : Int32)) (lv' := [(2, .int _), (1, .int _), (0, .ref _)]) hx hb dX6_finds_78 hl (k := 0) rfl rfl (by decide) rfl (fun ls hl => ?_)
                    refine lv_goto (tgt := 19) hx hb dX6_finds_81 (by decide) ?_
                    exact ih19 _ _ (cs1 j1 c22) (cs2 c22) (csm c22 jm) (Eq.trans hsp19 (Eq.trans (lp19_X6_finds_s _ _ _ _ _ _) (Eq.trans (if_neg c22) (Eq.trans (if_neg c33) (Eq.trans (if_neg c42) (Eq.trans (if_pos c55) (rfl))))))) _ (lv_sub hl [0, 1, 2] rfl) _ _ hP hD hS
                  · refine lv_aload_n hx hb dX6_finds_58 rfl (lv_at hl 2 rfl) ?_
                    refine lv_iload_n hx hb dX6_finds_59 rfl (lv_at hl 1 rfl) ?_
                    refine my_put (D := D) (ci := 5) (C := RX6) (T := TX6) (N := 17) (ty := .int) hx hb hts hi6 tyX6 tyX6_ok nmX6 hown hK hP hD hS 0 md_0 rfl 6 (by decide) wd3 (fun _ h9 => h9) rfl (by decide +kernel) rfl rfl (Nat.le_of_ble_eq_true rfl) (md_f6 _) dX6_finds_60 (fun H locs hP hD hS => ?_)
                    refine lv_aload_n hx hb dX6_finds_63 rfl (lv_at hl 2 rfl) ?_
                    refine lv_iload_n hx hb dX6_finds_64 rfl (lv_at hl 0 rfl) ?_
                    refine my_put (D := D) (ci := 5) (C := RX6) (T := TX6) (N := 17) (ty := .int) hx hb hts hi6 tyX6 tyX6_ok nmX6 hown hK hP hD hS 0 md_0 rfl 7 (by decide) wd4 (fun _ h9 => h9) rfl (by decide +kernel) rfl rfl (Nat.le_of_ble_eq_true rfl) (md_f7 _) dX6_finds_65 (fun H locs hP hD hS => ?_)
                    refine lv_aload_n hx hb dX6_finds_68 rfl (lv_at hl 2 rfl) ?_
                    refine lv_aload_n hx hb dX6_finds_69 rfl (lv_at hl 2 rfl) ?_
                    refine lv_iload_n hx hb dX6_finds_70 rfl (lv_at hl 1 rfl) ?_
                    refine lv_iload_n hx hb dX6_finds_71 rfl (lv_at hl 0 rfl) ?_
                    refine roV CF (c_X6_goWorth l D cI cC cW t _ _ _ _ _ (by first | (with_reducible first | assumption | exact m20 (by assumption) (by assumption) | exact ga20 (by assumption) (by assumption) | exact w2 (by assumption) | exact w2 (min4 (by assumption)) | exact w2 (s46 (by assumption)) | exact min4 (by assumption) | exact s46 (by assumption) | exact min11 (by assumption) (by assumption)) | (unfold vp_in; decide) | ((with_reducible (repeat (first | assumption | (refine sf_lays ?_ ?_ ?_; (with_reducible first | assumption | exact m20 (by assumption) (by assumption) | exact ga20 (by assumption) (by assumption)); (with_reducible first | exact v11_0 | exact v11_1 | exact v11_6 | exact v11_7 | exact v11_8 | exact v11_9 | exact v11_10 | exact w2 (by assumption) | exact w2 (min4 (by assumption)))) | (refine sf_adds ?_ ?_; (with_reducible first | exact v8_0 | exact v8_1 | exact v8_2 | exact v8_3 | exact v8_4 | exact v8_5 | exact v8_6 | exact v8_7)) | (refine sf_u (by omega) ?_)))); done)) (by first | (with_reducible first | assumption | exact m20 (by assumption) (by assumption) | exact ga20 (by assumption) (by assumption) | exact w2 (by assumption) | exact w2 (min4 (by assumption)) | exact w2 (s46 (by assumption)) | exact min4 (by assumption) | exact s46 (by assumption) | exact min11 (by assumption) (by assumption)) | (unfold vp_in; decide) | ((with_reducible (repeat (first | assumption | (refine sf_lays ?_ ?_ ?_; (with_reducible first | assumption | exact m20 (by assumption) (by assumption) | exact ga20 (by assumption) (by assumption)); (with_reducible first | exact v11_0 | exact v11_1 | exact v11_6 | exact v11_7 | exact v11_8 | exact v11_9 | exact v11_10 | exact w2 (by assumption) | exact w2 (min4 (by assumption)))) | (refine sf_adds ?_ ?_; (with_reducible first | exact v8_0 | exact v8_1 | exact v8_2 | exact v8_3 | exact v8_4 | exact v8_5 | exact v8_6 | exact v8_7)) | (refine sf_u (by omega) ?_)))); done))) (cwV 2 hts gX6_finds_X6_goWorth rfl rfl rfl (by decide +kernel) ⟨Nat.le_of_ble_eq_true rfl, Nat.le_of_ble_eq_true rfl⟩) hP hK hX hS 0 5 md_0 rfl rfl hl.1 rfl (Nat.le_of_ble_eq_true rfl) dX6_finds_72 ⟨Nat.zero_le _, Nat.zero_le _⟩ ?_
                    refine my_put (D := D) (ci := 5) (C := RX6) (T := TX6) (N := 17) (ty := .int) hx hb hts hi6 tyX6 tyX6_ok nmX6 hown hK hP hD hS 0 md_0 rfl 8 (by decide) wd1 (fun _ h9 => h9) rfl (by decide +kernel) rfl rfl (Nat.le_of_ble_eq_true rfl) (md_f8 _) dX6_finds_75 (fun H locs hP hD hS => ?_)
                    refine lv_iinc (v := _ + (1 : Int32)) (lv' := [(2, .int _), (1, .int _), (0, .ref _)]) hx hb dX6_finds_78 hl (k := 0) rfl rfl (by decide) rfl (fun ls hl => ?_)
                    refine lv_goto (tgt := 19) hx hb dX6_finds_81 (by decide) ?_
                    exact ih19 _ _ (cs1 j1 c22) (cs2 c22) (csm c22 jm) (Eq.trans hsp19 (Eq.trans (lp19_X6_finds_s _ _ _ _ _ _) (Eq.trans (if_neg c22) (Eq.trans (if_neg c33) (Eq.trans (if_neg c42) (Eq.trans (if_neg c55) (rfl))))))) _ (lv_sub hl [0, 1, 2] rfl) _ _ hP hD hS
        exact L19 61 _ _ (by decide) (by decide) (by decide) (Eq.trans hsp7 (Eq.trans (lp7_X6_finds_s _ _ _ _) (Eq.trans (if_neg c14) (rfl)))) _ (lv_sub hl [0, 1, 2] rfl) _ _ hP hD hS
  exact L7 21 _ _ (by decide) (cn2 hsf) (cnm hsf) (rfl) _ (lv_sub hl [0, 1] rfl) _ _ hP hD hS

def lp12_X6_sorts5 (N : Nat → Int32) (x2 x3 v3 : Int32) (K2 : Int32 → (Nat → Nat → Int32) → Nat → Nat → Int32) : Nat → Int32 → (Nat → Nat → Int32) → Nat → Nat → Int32
  | 0, v4, Zw => Zw
  | n + 1, v4, Zw => if x2 ≤ v4 then (K2 (v3 + (1 : Int32)) Zw) else (if x3 = 0 then (if (Zw 4 (ix v4)) ≤ (Zw 4 (ix v3)) then (lp12_X6_sorts5 N x2 x3 v3 K2 n (v4 + (1 : Int32)) Zw) else (let Z201 : Nat → Nat → Int32 := zu Zw 4 (ix v3) (Zw 4 (ix v4)); let Z202 : Nat → Nat → Int32 := zu Z201 4 (ix v4) (Zw 4 (ix v3)); lp12_X6_sorts5 N x2 x3 v3 K2 n (v4 + (1 : Int32)) Z202)) else (if (Zw 4 (ix v3)) ≤ (Zw 4 (ix v4)) then (lp12_X6_sorts5 N x2 x3 v3 K2 n (v4 + (1 : Int32)) Zw) else (let Z201 : Nat → Nat → Int32 := zu Zw 4 (ix v3) (Zw 4 (ix v4)); let Z202 : Nat → Nat → Int32 := zu Z201 4 (ix v4) (Zw 4 (ix v3)); lp12_X6_sorts5 N x2 x3 v3 K2 n (v4 + (1 : Int32)) Z202)))
theorem lp12_X6_sorts5_s (N : Nat → Int32) (x2 x3 v3 : Int32) (K2 : Int32 → (Nat → Nat → Int32) → Nat → Nat → Int32) (n : Nat) (v4 : Int32) (Zw : Nat → Nat → Int32) : lp12_X6_sorts5 N x2 x3 v3 K2 (n + 1) v4 Zw = if x2 ≤ v4 then (K2 (v3 + (1 : Int32)) Zw) else (if x3 = 0 then (if (Zw 4 (ix v4)) ≤ (Zw 4 (ix v3)) then (lp12_X6_sorts5 N x2 x3 v3 K2 n (v4 + (1 : Int32)) Zw) else (let Z201 : Nat → Nat → Int32 := zu Zw 4 (ix v3) (Zw 4 (ix v4)); let Z202 : Nat → Nat → Int32 := zu Z201 4 (ix v4) (Zw 4 (ix v3)); lp12_X6_sorts5 N x2 x3 v3 K2 n (v4 + (1 : Int32)) Z202)) else (if (Zw 4 (ix v3)) ≤ (Zw 4 (ix v4)) then (lp12_X6_sorts5 N x2 x3 v3 K2 n (v4 + (1 : Int32)) Zw) else (let Z201 : Nat → Nat → Int32 := zu Zw 4 (ix v3) (Zw 4 (ix v4)); let Z202 : Nat → Nat → Int32 := zu Z201 4 (ix v4) (Zw 4 (ix v3)); lp12_X6_sorts5 N x2 x3 v3 K2 n (v4 + (1 : Int32)) Z202))) := rfl
def lp2_X6_sorts5 (N : Nat → Int32) (x2 x3 : Int32) : Nat → Int32 → (Nat → Nat → Int32) → Nat → Nat → Int32
  | 0, v3, Zw => Zw
  | n + 1, v3, Zw => if x2 ≤ v3 then (Zw) else (lp12_X6_sorts5 N x2 x3 v3 (lp2_X6_sorts5 N x2 x3 n) 21 (v3 + (1 : Int32)) Zw)
theorem lp2_X6_sorts5_s (N : Nat → Int32) (x2 x3 : Int32) (n : Nat) (v3 : Int32) (Zw : Nat → Nat → Int32) : lp2_X6_sorts5 N x2 x3 (n + 1) v3 Zw = if x2 ≤ v3 then (Zw) else (lp12_X6_sorts5 N x2 x3 v3 (lp2_X6_sorts5 N x2 x3 n) 21 (v3 + (1 : Int32)) Zw) := rfl
def sp_X6_sorts5 (N : Nat → Int32) (Z : Nat → Nat → Int32) (x2 x3 : Int32) : Nat → Nat → Int32 :=
  lp2_X6_sorts5 N x2 x3 21 (0 : Int32) Z
set_option maxHeartbeats 4000000 in
set_option maxRecDepth 100000 in
theorem c_X6_sorts5 (l : Launch) (D : va_G) (cI cC cW : ClassId) (t : Nat → Nat) (a : Nat → Nat) (sz : Nat) (N : Nat → Int32) (Z : Nat → Nat → Int32) (x2 x3 : Int32) (h0 : 0 ≤ x2.toInt) (h2 : x2.toInt ≤ 20) : Met l yX6_sorts wsX6_sorts ({ frames := 0, cells := 0, slots := 0, locals := 0 }) (va_Pc [.ref (a 5), .int x2, .int x3] (rwP D (tyL cI cC cW) (md cI a N Z) t sz)) (va_Qv (fun (u : Nat → Nat → Int32) => u = sp_X6_sorts5 N Z x2 x3) (fun u => rwB D (va_A (md cI a N Z) sz) (md cI a N u)) (va_A (md cI a N Z) sz)) 0 0 (va_A (md cI a N Z) sz) := by
  refine Met.ofW (cc := cX6_sorts) (maxL := 6) (ret := none) (by decide) rfl ?_
  intro p e s m args below meth c s₁ B hml hv
  obtain ⟨rfl, hsz, hP, hK, hD0, hX⟩ := hv
  have hx := B.exec
  have hb := B.bytes
  have hr := B.returns
  have hts := atoms_spec (ws := wsX6_sorts) B.pre
  have hown : s.vm.findClass RX6 = some m.cls := findClass_of_methodNamed B.named
  have hlocks := B.notSynchronized
  subst hsz
  have hD := hD0.self (sz := s.heap.size)
  generalize hAe : va_A (md cI a N Z) s.heap.size = A at hD hX ⊢
  have hA : ∀ q : Nat, s.heap.size ≤ q → A q := fun q h => by rw [← hAe]; exact Or.inr h
  have hS : va_S A s.heap s.heap [] := va_S.rf
  have hl := lv_entry ([.ref (a 5), .int x2, .int x3]) (n := 6) (Nat.le_of_ble_eq_true rfl)
  rw [lg_entry_eq]
  generalize (lg_sl ([.ref (a 5), .int x2, .int x3]) ++ List.replicate (6 - (lg_sl ([.ref (a 5), .int x2, .int x3])).length) Slot.unset).toArray = ls at hl ⊢
  have hl : lv_has ls 6 [(0, .ref (a 5)), (1, .int x2), (2, .int x3)] := hl
  refine lv_iconst (v := 0) hx hb dX6_sorts_0 (by decide) ?_
  refine lv_istore_n (lv' := [(3, .int _), (0, .ref _), (1, .int _), (2, .int _)]) hx hb dX6_sorts_1 rfl hl (by decide) rfl (fun ls hl => ?_)
  have L2 : ∀ (n2 : Nat) (v3 : Int32) (Zw : Nat → Nat → Int32), (0 ≤ v3.toInt) → (v3.toInt ≤ x2.toInt) → (x2.toInt - v3.toInt < (n2 : Int)) → sp_X6_sorts5 N Z x2 x3 = lp2_X6_sorts5 N x2 x3 (n2) v3 Zw → ∀ (ls : Array Slot), lv_has ls 6 [(3, .int v3), (0, .ref (a 5)), (1, .int x2), (2, .int x3)] → ∀ (H : Heap) (locs : List Loc), va_P D vwCl (md cI a N Zw) H → va_D A (md cI a N Zw) → va_S A s.heap H locs → W p l e (headSpec wsX6_sorts ({ frames := 0, cells := 0, slots := 0, locals := 0 } : Room)).room s m [.ref (a 5), .int x2, .int x3].toArray below meth c H locs 0 0 (MQ below (va_Qv (fun (u : Nat → Nat → Int32) => u = sp_X6_sorts5 N Z x2 x3) (fun u => rwB D A (md cI a N u)) A) [.ref (a 5), .int x2, .int x3].toArray s 0 0 A) (F0 m 2 ls []) := by
    intro n2
    induction n2 with
    | zero => intro v3 Zw i1 i2 im; exfalso; omega
    | succ n2 ih2 =>
      intro v3 Zw i1 i2 im hsp2 ls hl H locs hP hD hS
      refine lv_iload_n hx hb dX6_sorts_2 rfl (lv_at hl 0 rfl) ?_
      refine lv_iload_n hx hb dX6_sorts_3 rfl (lv_at hl 2 rfl) ?_
      refine lv_icmp_ge (tgt := 75) hx hb dX6_sorts_4 (by decide) (fun c4 => ?_) (fun c4 => ?_)
      · exact rw_vret _ hx hb hr hP hD hS (Eq.trans hsp2 (Eq.trans (lp2_X6_sorts5_s _ _ _ _ _ _) (Eq.trans (if_pos c4) (rfl)))) dX6_sorts_75 hlocks
      · have hv : vp_in v3 20 := cnle i1 c4 h2
        refine lv_iload_n hx hb dX6_sorts_7 rfl (lv_at hl 0 rfl) ?_
        refine lv_iconst (v := 1) hx hb dX6_sorts_8 (by decide) ?_
        refine lv_iadd hx hb dX6_sorts_9 ?_
        refine lv_istore (lv' := [(4, .int _), (3, .int _), (0, .ref _), (1, .int _), (2, .int _)]) hx hb dX6_sorts_10 hl (by decide) rfl (fun ls hl => ?_)
        have L12 : ∀ (n12 : Nat) (v4 : Int32) (Zw : Nat → Nat → Int32), (0 ≤ v4.toInt) → (v4.toInt ≤ x2.toInt) → (x2.toInt - v4.toInt < (n12 : Int)) → sp_X6_sorts5 N Z x2 x3 = lp12_X6_sorts5 N x2 x3 v3 (lp2_X6_sorts5 N x2 x3 n2) (n12) v4 Zw → ∀ (ls : Array Slot), lv_has ls 6 [(4, .int v4), (3, .int v3), (0, .ref (a 5)), (1, .int x2), (2, .int x3)] → ∀ (H : Heap) (locs : List Loc), va_P D vwCl (md cI a N Zw) H → va_D A (md cI a N Zw) → va_S A s.heap H locs → W p l e (headSpec wsX6_sorts ({ frames := 0, cells := 0, slots := 0, locals := 0 } : Room)).room s m [.ref (a 5), .int x2, .int x3].toArray below meth c H locs 0 0 (MQ below (va_Qv (fun (u : Nat → Nat → Int32) => u = sp_X6_sorts5 N Z x2 x3) (fun u => rwB D A (md cI a N u)) A) [.ref (a 5), .int x2, .int x3].toArray s 0 0 A) (F0 m 12 ls []) := by
          intro n12
          induction n12 with
          | zero => intro v4 Zw j1 j2 jm; exfalso; omega
          | succ n12 ih12 =>
            intro v4 Zw j1 j2 jm hsp12 ls hl H locs hP hD hS
            refine lv_iload hx hb dX6_sorts_12 (lv_at hl 0 rfl) ?_
            refine lv_iload_n hx hb dX6_sorts_14 rfl (lv_at hl 3 rfl) ?_
            refine lv_icmp_ge (tgt := 69) hx hb dX6_sorts_15 (by decide) (fun c15 => ?_) (fun c15 => ?_)
            · refine lv_iinc (v := _ + (1 : Int32)) (lv' := [(3, .int _), (4, .int _), (0, .ref _), (1, .int _), (2, .int _)]) hx hb dX6_sorts_69 hl (k := 1) rfl rfl (by decide) rfl (fun ls hl => ?_)
              refine lv_goto (tgt := 2) hx hb dX6_sorts_72 (by decide) ?_
              exact ih2 _ _ (cs1 i1 c4) (cs2 c4) (csm c4 im) (Eq.trans hsp12 (Eq.trans (lp12_X6_sorts5_s _ _ _ _ _ _ _ _) (Eq.trans (if_pos c15) (rfl)))) _ (lv_sub hl [0, 2, 3, 4] rfl) _ _ hP hD hS
            · have hv4 : vp_in v4 20 := cnle j1 c15 h2
              refine lv_iload_n hx hb dX6_sorts_18 rfl (lv_at hl 4 rfl) ?_
              refine lv_if_eq (tgt := 35) hx hb dX6_sorts_19 (by decide) (fun c19 => ?_) (fun c19 => ?_)
              · refine lv_aload_n hx hb dX6_sorts_35 rfl (lv_at hl 2 rfl) ?_
                refine lv_iload hx hb dX6_sorts_36 (lv_at hl 0 rfl) ?_
                refine va_iald hx hb hK hP 5 0 md_5 rfl (by assumption) dX6_sorts_38 ?_
                refine lv_aload_n hx hb dX6_sorts_39 rfl (lv_at hl 2 rfl) ?_
                refine lv_iload_n hx hb dX6_sorts_40 rfl (lv_at hl 1 rfl) ?_
                refine va_iald hx hb hK hP 5 0 md_5 rfl (by assumption) dX6_sorts_41 ?_
                refine lv_icmp_le (tgt := 63) hx hb dX6_sorts_42 (by decide) (fun c42 => ?_) (fun c42 => ?_)
                · refine lv_iinc (v := _ + (1 : Int32)) (lv' := [(4, .int _), (3, .int _), (0, .ref _), (1, .int _), (2, .int _)]) hx hb dX6_sorts_63 hl (k := 0) rfl rfl (by decide) rfl (fun ls hl => ?_)
                  refine lv_goto (tgt := 12) hx hb dX6_sorts_66 (by decide) ?_
                  exact ih12 _ _ (cs1 j1 c15) (cs2 c15) (csm c15 jm) (Eq.trans hsp12 (Eq.trans (lp12_X6_sorts5_s _ _ _ _ _ _ _ _) (Eq.trans (if_neg c15) (Eq.trans (if_pos c19) (Eq.trans (if_pos c42) (rfl)))))) _ (lv_sub hl [0, 1, 2, 3, 4] rfl) _ _ hP hD hS
                · refine lv_aload_n hx hb dX6_sorts_45 rfl (lv_at hl 2 rfl) ?_
                  refine lv_iload_n hx hb dX6_sorts_46 rfl (lv_at hl 1 rfl) ?_
                  refine va_iald hx hb hK hP 5 0 md_5 rfl (by assumption) dX6_sorts_47 ?_
                  refine lv_istore (lv' := [(5, .int _), (4, .int _), (3, .int _), (0, .ref _), (1, .int _), (2, .int _)]) hx hb dX6_sorts_48 hl (by decide) rfl (fun ls hl => ?_)
                  refine lv_aload_n hx hb dX6_sorts_50 rfl (lv_at hl 3 rfl) ?_
                  refine lv_iload_n hx hb dX6_sorts_51 rfl (lv_at hl 2 rfl) ?_
                  refine lv_aload_n hx hb dX6_sorts_52 rfl (lv_at hl 3 rfl) ?_
                  refine lv_iload hx hb dX6_sorts_53 (lv_at hl 1 rfl) ?_
                  refine va_iald hx hb hK hP 5 0 md_5 rfl (by assumption) dX6_sorts_55 ?_
                  refine my_iast hx hb hK hP hD hS 5 0 md_5 rfl (md_s5 _ _) (by assumption) dX6_sorts_56 (fun H locs hP hD hS => ?_)
                  refine lv_aload_n hx hb dX6_sorts_57 rfl (lv_at hl 3 rfl) ?_
                  refine lv_iload hx hb dX6_sorts_58 (lv_at hl 1 rfl) ?_
                  refine lv_iload hx hb dX6_sorts_60 (lv_at hl 0 rfl) ?_
                  refine my_iast hx hb hK hP hD hS 5 0 md_5 rfl (md_s5 _ _) (by assumption) dX6_sorts_62 (fun H locs hP hD hS => ?_)
                  refine lv_iinc (v := _ + (1 : Int32)) (lv' := [(4, .int _), (5, .int _), (3, .int _), (0, .ref _), (1, .int _), (2, .int _)]) hx hb dX6_sorts_63 hl (k := 1) rfl rfl (by decide) rfl (fun ls hl => ?_)
                  refine lv_goto (tgt := 12) hx hb dX6_sorts_66 (by decide) ?_
                  exact ih12 _ _ (cs1 j1 c15) (cs2 c15) (csm c15 jm) (Eq.trans hsp12 (Eq.trans (lp12_X6_sorts5_s _ _ _ _ _ _ _ _) (Eq.trans (if_neg c15) (Eq.trans (if_pos c19) (Eq.trans (if_neg c42) (rfl)))))) _ (lv_sub hl [0, 2, 3, 4, 5] rfl) _ _ hP hD hS
              · refine lv_aload_n hx hb dX6_sorts_22 rfl (lv_at hl 2 rfl) ?_
                refine lv_iload hx hb dX6_sorts_23 (lv_at hl 0 rfl) ?_
                refine va_iald hx hb hK hP 5 0 md_5 rfl (by assumption) dX6_sorts_25 ?_
                refine lv_aload_n hx hb dX6_sorts_26 rfl (lv_at hl 2 rfl) ?_
                refine lv_iload_n hx hb dX6_sorts_27 rfl (lv_at hl 1 rfl) ?_
                refine va_iald hx hb hK hP 5 0 md_5 rfl (by assumption) dX6_sorts_28 ?_
                refine lv_icmp_ge (tgt := 63) hx hb dX6_sorts_29 (by decide) (fun c29 => ?_) (fun c29 => ?_)
                · refine lv_iinc (v := _ + (1 : Int32)) (lv' := [(4, .int _), (3, .int _), (0, .ref _), (1, .int _), (2, .int _)]) hx hb dX6_sorts_63 hl (k := 0) rfl rfl (by decide) rfl (fun ls hl => ?_)
                  refine lv_goto (tgt := 12) hx hb dX6_sorts_66 (by decide) ?_
                  exact ih12 _ _ (cs1 j1 c15) (cs2 c15) (csm c15 jm) (Eq.trans hsp12 (Eq.trans (lp12_X6_sorts5_s _ _ _ _ _ _ _ _) (Eq.trans (if_neg c15) (Eq.trans (if_neg c19) (Eq.trans (if_pos c29) (rfl)))))) _ (lv_sub hl [0, 1, 2, 3, 4] rfl) _ _ hP hD hS
                · refine lv_goto (tgt := 45) hx hb dX6_sorts_32 (by decide) ?_
                  refine lv_aload_n hx hb dX6_sorts_45 rfl (lv_at hl 2 rfl) ?_
                  refine lv_iload_n hx hb dX6_sorts_46 rfl (lv_at hl 1 rfl) ?_
                  refine va_iald hx hb hK hP 5 0 md_5 rfl (by assumption) dX6_sorts_47 ?_
                  refine lv_istore (lv' := [(5, .int _), (4, .int _), (3, .int _), (0, .ref _), (1, .int _), (2, .int _)]) hx hb dX6_sorts_48 hl (by decide) rfl (fun ls hl => ?_)
                  refine lv_aload_n hx hb dX6_sorts_50 rfl (lv_at hl 3 rfl) ?_
                  refine lv_iload_n hx hb dX6_sorts_51 rfl (lv_at hl 2 rfl) ?_
                  refine lv_aload_n hx hb dX6_sorts_52 rfl (lv_at hl 3 rfl) ?_
                  refine lv_iload hx hb dX6_sorts_53 (lv_at hl 1 rfl) ?_
                  refine va_iald hx hb hK hP 5 0 md_5 rfl (by assumption) dX6_sorts_55 ?_
                  refine my_iast hx hb hK hP hD hS 5 0 md_5 rfl (md_s5 _ _) (by assumption) dX6_sorts_56 (fun H locs hP hD hS => ?_)
                  refine lv_aload_n hx hb dX6_sorts_57 rfl (lv_at hl 3 rfl) ?_
                  refine lv_iload hx hb dX6_sorts_58 (lv_at hl 1 rfl) ?_
                  refine lv_iload hx hb dX6_sorts_60 (lv_at hl 0 rfl) ?_
                  refine my_iast hx hb hK hP hD hS 5 0 md_5 rfl (md_s5 _ _) (by assumption) dX6_sorts_62 (fun H locs hP hD hS => ?_)
                  refine lv_iinc (v := _ + (1 : Int32)) (lv' := [(4, .int _), (5, .int _), (3, .int _), (0, .ref _), (1, .int _), (2, .int _)]) hx hb dX6_sorts_63 hl (k := 1) rfl rfl (by decide) rfl (fun ls hl => ?_)
                  refine lv_goto (tgt := 12) hx hb dX6_sorts_66 (by decide) ?_
                  exact ih12 _ _ (cs1 j1 c15) (cs2 c15) (csm c15 jm) (Eq.trans hsp12 (Eq.trans (lp12_X6_sorts5_s _ _ _ _ _ _ _ _) (Eq.trans (if_neg c15) (Eq.trans (if_neg c19) (Eq.trans (if_neg c29) (rfl)))))) _ (lv_sub hl [0, 2, 3, 4, 5] rfl) _ _ hP hD hS
        exact L12 21 _ _ (cs1 i1 c4) (cs2 c4) (srt i1 c4 h2) (Eq.trans hsp2 (Eq.trans (lp2_X6_sorts5_s _ _ _ _ _ _) (Eq.trans (if_neg c4) (rfl)))) _ (lv_sub hl [0, 1, 2, 3, 4] rfl) _ _ hP hD hS
  exact L2 21 _ _ (by decide) (srt00 h0) (srt0 h2) (rfl) _ (lv_sub hl [0, 1, 2, 3] rfl) _ _ hP hD hS

def lp12_X6_sorts6 (N : Nat → Int32) (x2 x3 v3 : Int32) (K2 : Int32 → (Nat → Nat → Int32) → Nat → Nat → Int32) : Nat → Int32 → (Nat → Nat → Int32) → Nat → Nat → Int32
  | 0, v4, Zw => Zw
  | n + 1, v4, Zw => if x2 ≤ v4 then (K2 (v3 + (1 : Int32)) Zw) else (if x3 = 0 then (if (Zw 5 (ix v4)) ≤ (Zw 5 (ix v3)) then (lp12_X6_sorts6 N x2 x3 v3 K2 n (v4 + (1 : Int32)) Zw) else (let Z201 : Nat → Nat → Int32 := zu Zw 5 (ix v3) (Zw 5 (ix v4)); let Z202 : Nat → Nat → Int32 := zu Z201 5 (ix v4) (Zw 5 (ix v3)); lp12_X6_sorts6 N x2 x3 v3 K2 n (v4 + (1 : Int32)) Z202)) else (if (Zw 5 (ix v3)) ≤ (Zw 5 (ix v4)) then (lp12_X6_sorts6 N x2 x3 v3 K2 n (v4 + (1 : Int32)) Zw) else (let Z201 : Nat → Nat → Int32 := zu Zw 5 (ix v3) (Zw 5 (ix v4)); let Z202 : Nat → Nat → Int32 := zu Z201 5 (ix v4) (Zw 5 (ix v3)); lp12_X6_sorts6 N x2 x3 v3 K2 n (v4 + (1 : Int32)) Z202)))
theorem lp12_X6_sorts6_s (N : Nat → Int32) (x2 x3 v3 : Int32) (K2 : Int32 → (Nat → Nat → Int32) → Nat → Nat → Int32) (n : Nat) (v4 : Int32) (Zw : Nat → Nat → Int32) : lp12_X6_sorts6 N x2 x3 v3 K2 (n + 1) v4 Zw = if x2 ≤ v4 then (K2 (v3 + (1 : Int32)) Zw) else (if x3 = 0 then (if (Zw 5 (ix v4)) ≤ (Zw 5 (ix v3)) then (lp12_X6_sorts6 N x2 x3 v3 K2 n (v4 + (1 : Int32)) Zw) else (let Z201 : Nat → Nat → Int32 := zu Zw 5 (ix v3) (Zw 5 (ix v4)); let Z202 : Nat → Nat → Int32 := zu Z201 5 (ix v4) (Zw 5 (ix v3)); lp12_X6_sorts6 N x2 x3 v3 K2 n (v4 + (1 : Int32)) Z202)) else (if (Zw 5 (ix v3)) ≤ (Zw 5 (ix v4)) then (lp12_X6_sorts6 N x2 x3 v3 K2 n (v4 + (1 : Int32)) Zw) else (let Z201 : Nat → Nat → Int32 := zu Zw 5 (ix v3) (Zw 5 (ix v4)); let Z202 : Nat → Nat → Int32 := zu Z201 5 (ix v4) (Zw 5 (ix v3)); lp12_X6_sorts6 N x2 x3 v3 K2 n (v4 + (1 : Int32)) Z202))) := rfl
def lp2_X6_sorts6 (N : Nat → Int32) (x2 x3 : Int32) : Nat → Int32 → (Nat → Nat → Int32) → Nat → Nat → Int32
  | 0, v3, Zw => Zw
  | n + 1, v3, Zw => if x2 ≤ v3 then (Zw) else (lp12_X6_sorts6 N x2 x3 v3 (lp2_X6_sorts6 N x2 x3 n) 21 (v3 + (1 : Int32)) Zw)
theorem lp2_X6_sorts6_s (N : Nat → Int32) (x2 x3 : Int32) (n : Nat) (v3 : Int32) (Zw : Nat → Nat → Int32) : lp2_X6_sorts6 N x2 x3 (n + 1) v3 Zw = if x2 ≤ v3 then (Zw) else (lp12_X6_sorts6 N x2 x3 v3 (lp2_X6_sorts6 N x2 x3 n) 21 (v3 + (1 : Int32)) Zw) := rfl
def sp_X6_sorts6 (N : Nat → Int32) (Z : Nat → Nat → Int32) (x2 x3 : Int32) : Nat → Nat → Int32 :=
  lp2_X6_sorts6 N x2 x3 21 (0 : Int32) Z
set_option maxHeartbeats 4000000 in
set_option maxRecDepth 100000 in
theorem c_X6_sorts6 (l : Launch) (D : va_G) (cI cC cW : ClassId) (t : Nat → Nat) (a : Nat → Nat) (sz : Nat) (N : Nat → Int32) (Z : Nat → Nat → Int32) (x2 x3 : Int32) (h0 : 0 ≤ x2.toInt) (h2 : x2.toInt ≤ 20) : Met l yX6_sorts wsX6_sorts ({ frames := 0, cells := 0, slots := 0, locals := 0 }) (va_Pc [.ref (a 6), .int x2, .int x3] (rwP D (tyL cI cC cW) (md cI a N Z) t sz)) (va_Qv (fun (u : Nat → Nat → Int32) => u = sp_X6_sorts6 N Z x2 x3) (fun u => rwB D (va_A (md cI a N Z) sz) (md cI a N u)) (va_A (md cI a N Z) sz)) 0 0 (va_A (md cI a N Z) sz) := by
  refine Met.ofW (cc := cX6_sorts) (maxL := 6) (ret := none) (by decide) rfl ?_
  intro p e s m args below meth c s₁ B hml hv
  obtain ⟨rfl, hsz, hP, hK, hD0, hX⟩ := hv
  have hx := B.exec
  have hb := B.bytes
  have hr := B.returns
  have hts := atoms_spec (ws := wsX6_sorts) B.pre
  have hown : s.vm.findClass RX6 = some m.cls := findClass_of_methodNamed B.named
  have hlocks := B.notSynchronized
  subst hsz
  have hD := hD0.self (sz := s.heap.size)
  generalize hAe : va_A (md cI a N Z) s.heap.size = A at hD hX ⊢
  have hA : ∀ q : Nat, s.heap.size ≤ q → A q := fun q h => by rw [← hAe]; exact Or.inr h
  have hS : va_S A s.heap s.heap [] := va_S.rf
  have hl := lv_entry ([.ref (a 6), .int x2, .int x3]) (n := 6) (Nat.le_of_ble_eq_true rfl)
  rw [lg_entry_eq]
  generalize (lg_sl ([.ref (a 6), .int x2, .int x3]) ++ List.replicate (6 - (lg_sl ([.ref (a 6), .int x2, .int x3])).length) Slot.unset).toArray = ls at hl ⊢
  have hl : lv_has ls 6 [(0, .ref (a 6)), (1, .int x2), (2, .int x3)] := hl
  refine lv_iconst (v := 0) hx hb dX6_sorts_0 (by decide) ?_
  refine lv_istore_n (lv' := [(3, .int _), (0, .ref _), (1, .int _), (2, .int _)]) hx hb dX6_sorts_1 rfl hl (by decide) rfl (fun ls hl => ?_)
  have L2 : ∀ (n2 : Nat) (v3 : Int32) (Zw : Nat → Nat → Int32), (0 ≤ v3.toInt) → (v3.toInt ≤ x2.toInt) → (x2.toInt - v3.toInt < (n2 : Int)) → sp_X6_sorts6 N Z x2 x3 = lp2_X6_sorts6 N x2 x3 (n2) v3 Zw → ∀ (ls : Array Slot), lv_has ls 6 [(3, .int v3), (0, .ref (a 6)), (1, .int x2), (2, .int x3)] → ∀ (H : Heap) (locs : List Loc), va_P D vwCl (md cI a N Zw) H → va_D A (md cI a N Zw) → va_S A s.heap H locs → W p l e (headSpec wsX6_sorts ({ frames := 0, cells := 0, slots := 0, locals := 0 } : Room)).room s m [.ref (a 6), .int x2, .int x3].toArray below meth c H locs 0 0 (MQ below (va_Qv (fun (u : Nat → Nat → Int32) => u = sp_X6_sorts6 N Z x2 x3) (fun u => rwB D A (md cI a N u)) A) [.ref (a 6), .int x2, .int x3].toArray s 0 0 A) (F0 m 2 ls []) := by
    intro n2
    induction n2 with
    | zero => intro v3 Zw i1 i2 im; exfalso; omega
    | succ n2 ih2 =>
      intro v3 Zw i1 i2 im hsp2 ls hl H locs hP hD hS
      refine lv_iload_n hx hb dX6_sorts_2 rfl (lv_at hl 0 rfl) ?_
      refine lv_iload_n hx hb dX6_sorts_3 rfl (lv_at hl 2 rfl) ?_
      refine lv_icmp_ge (tgt := 75) hx hb dX6_sorts_4 (by decide) (fun c4 => ?_) (fun c4 => ?_)
      · exact rw_vret _ hx hb hr hP hD hS (Eq.trans hsp2 (Eq.trans (lp2_X6_sorts6_s _ _ _ _ _ _) (Eq.trans (if_pos c4) (rfl)))) dX6_sorts_75 hlocks
      · have hv : vp_in v3 20 := cnle i1 c4 h2
        refine lv_iload_n hx hb dX6_sorts_7 rfl (lv_at hl 0 rfl) ?_
        refine lv_iconst (v := 1) hx hb dX6_sorts_8 (by decide) ?_
        refine lv_iadd hx hb dX6_sorts_9 ?_
        refine lv_istore (lv' := [(4, .int _), (3, .int _), (0, .ref _), (1, .int _), (2, .int _)]) hx hb dX6_sorts_10 hl (by decide) rfl (fun ls hl => ?_)
        have L12 : ∀ (n12 : Nat) (v4 : Int32) (Zw : Nat → Nat → Int32), (0 ≤ v4.toInt) → (v4.toInt ≤ x2.toInt) → (x2.toInt - v4.toInt < (n12 : Int)) → sp_X6_sorts6 N Z x2 x3 = lp12_X6_sorts6 N x2 x3 v3 (lp2_X6_sorts6 N x2 x3 n2) (n12) v4 Zw → ∀ (ls : Array Slot), lv_has ls 6 [(4, .int v4), (3, .int v3), (0, .ref (a 6)), (1, .int x2), (2, .int x3)] → ∀ (H : Heap) (locs : List Loc), va_P D vwCl (md cI a N Zw) H → va_D A (md cI a N Zw) → va_S A s.heap H locs → W p l e (headSpec wsX6_sorts ({ frames := 0, cells := 0, slots := 0, locals := 0 } : Room)).room s m [.ref (a 6), .int x2, .int x3].toArray below meth c H locs 0 0 (MQ below (va_Qv (fun (u : Nat → Nat → Int32) => u = sp_X6_sorts6 N Z x2 x3) (fun u => rwB D A (md cI a N u)) A) [.ref (a 6), .int x2, .int x3].toArray s 0 0 A) (F0 m 12 ls []) := by
          intro n12
          induction n12 with
          | zero => intro v4 Zw j1 j2 jm; exfalso; omega
          | succ n12 ih12 =>
            intro v4 Zw j1 j2 jm hsp12 ls hl H locs hP hD hS
            refine lv_iload hx hb dX6_sorts_12 (lv_at hl 0 rfl) ?_
            refine lv_iload_n hx hb dX6_sorts_14 rfl (lv_at hl 3 rfl) ?_
            refine lv_icmp_ge (tgt := 69) hx hb dX6_sorts_15 (by decide) (fun c15 => ?_) (fun c15 => ?_)
            · refine lv_iinc (v := _ + (1 : Int32)) (lv' := [(3, .int _), (4, .int _), (0, .ref _), (1, .int _), (2, .int _)]) hx hb dX6_sorts_69 hl (k := 1) rfl rfl (by decide) rfl (fun ls hl => ?_)
              refine lv_goto (tgt := 2) hx hb dX6_sorts_72 (by decide) ?_
              exact ih2 _ _ (cs1 i1 c4) (cs2 c4) (csm c4 im) (Eq.trans hsp12 (Eq.trans (lp12_X6_sorts6_s _ _ _ _ _ _ _ _) (Eq.trans (if_pos c15) (rfl)))) _ (lv_sub hl [0, 2, 3, 4] rfl) _ _ hP hD hS
            · have hv4 : vp_in v4 20 := cnle j1 c15 h2
              refine lv_iload_n hx hb dX6_sorts_18 rfl (lv_at hl 4 rfl) ?_
              refine lv_if_eq (tgt := 35) hx hb dX6_sorts_19 (by decide) (fun c19 => ?_) (fun c19 => ?_)
              · refine lv_aload_n hx hb dX6_sorts_35 rfl (lv_at hl 2 rfl) ?_
                refine lv_iload hx hb dX6_sorts_36 (lv_at hl 0 rfl) ?_
                refine va_iald hx hb hK hP 6 0 md_6 rfl (by assumption) dX6_sorts_38 ?_
                refine lv_aload_n hx hb dX6_sorts_39 rfl (lv_at hl 2 rfl) ?_
                refine lv_iload_n hx hb dX6_sorts_40 rfl (lv_at hl 1 rfl) ?_
                refine va_iald hx hb hK hP 6 0 md_6 rfl (by assumption) dX6_sorts_41 ?_
                refine lv_icmp_le (tgt := 63) hx hb dX6_sorts_42 (by decide) (fun c42 => ?_) (fun c42 => ?_)
                · refine lv_iinc (v := _ + (1 : Int32)) (lv' := [(4, .int _), (3, .int _), (0, .ref _), (1, .int _), (2, .int _)]) hx hb dX6_sorts_63 hl (k := 0) rfl rfl (by decide) rfl (fun ls hl => ?_)
                  refine lv_goto (tgt := 12) hx hb dX6_sorts_66 (by decide) ?_
                  exact ih12 _ _ (cs1 j1 c15) (cs2 c15) (csm c15 jm) (Eq.trans hsp12 (Eq.trans (lp12_X6_sorts6_s _ _ _ _ _ _ _ _) (Eq.trans (if_neg c15) (Eq.trans (if_pos c19) (Eq.trans (if_pos c42) (rfl)))))) _ (lv_sub hl [0, 1, 2, 3, 4] rfl) _ _ hP hD hS
                · refine lv_aload_n hx hb dX6_sorts_45 rfl (lv_at hl 2 rfl) ?_
                  refine lv_iload_n hx hb dX6_sorts_46 rfl (lv_at hl 1 rfl) ?_
                  refine va_iald hx hb hK hP 6 0 md_6 rfl (by assumption) dX6_sorts_47 ?_
                  refine lv_istore (lv' := [(5, .int _), (4, .int _), (3, .int _), (0, .ref _), (1, .int _), (2, .int _)]) hx hb dX6_sorts_48 hl (by decide) rfl (fun ls hl => ?_)
                  refine lv_aload_n hx hb dX6_sorts_50 rfl (lv_at hl 3 rfl) ?_
                  refine lv_iload_n hx hb dX6_sorts_51 rfl (lv_at hl 2 rfl) ?_
                  refine lv_aload_n hx hb dX6_sorts_52 rfl (lv_at hl 3 rfl) ?_
                  refine lv_iload hx hb dX6_sorts_53 (lv_at hl 1 rfl) ?_
                  refine va_iald hx hb hK hP 6 0 md_6 rfl (by assumption) dX6_sorts_55 ?_
                  refine my_iast hx hb hK hP hD hS 6 0 md_6 rfl (md_s6 _ _) (by assumption) dX6_sorts_56 (fun H locs hP hD hS => ?_)
                  refine lv_aload_n hx hb dX6_sorts_57 rfl (lv_at hl 3 rfl) ?_
                  refine lv_iload hx hb dX6_sorts_58 (lv_at hl 1 rfl) ?_
                  refine lv_iload hx hb dX6_sorts_60 (lv_at hl 0 rfl) ?_
                  refine my_iast hx hb hK hP hD hS 6 0 md_6 rfl (md_s6 _ _) (by assumption) dX6_sorts_62 (fun H locs hP hD hS => ?_)
                  refine lv_iinc (v := _ + (1 : Int32)) (lv' := [(4, .int _), (5, .int _), (3, .int _), (0, .ref _), (1, .int _), (2, .int _)]) hx hb dX6_sorts_63 hl (k := 1) rfl rfl (by decide) rfl (fun ls hl => ?_)
                  refine lv_goto (tgt := 12) hx hb dX6_sorts_66 (by decide) ?_
                  exact ih12 _ _ (cs1 j1 c15) (cs2 c15) (csm c15 jm) (Eq.trans hsp12 (Eq.trans (lp12_X6_sorts6_s _ _ _ _ _ _ _ _) (Eq.trans (if_neg c15) (Eq.trans (if_pos c19) (Eq.trans (if_neg c42) (rfl)))))) _ (lv_sub hl [0, 2, 3, 4, 5] rfl) _ _ hP hD hS
              · refine lv_aload_n hx hb dX6_sorts_22 rfl (lv_at hl 2 rfl) ?_
                refine lv_iload hx hb dX6_sorts_23 (lv_at hl 0 rfl) ?_
                refine va_iald hx hb hK hP 6 0 md_6 rfl (by assumption) dX6_sorts_25 ?_
                refine lv_aload_n hx hb dX6_sorts_26 rfl (lv_at hl 2 rfl) ?_
                refine lv_iload_n hx hb dX6_sorts_27 rfl (lv_at hl 1 rfl) ?_
                refine va_iald hx hb hK hP 6 0 md_6 rfl (by assumption) dX6_sorts_28 ?_
                refine lv_icmp_ge (tgt := 63) hx hb dX6_sorts_29 (by decide) (fun c29 => ?_) (fun c29 => ?_)
                · refine lv_iinc (v := _ + (1 : Int32)) (lv' := [(4, .int _), (3, .int _), (0, .ref _), (1, .int _), (2, .int _)]) hx hb dX6_sorts_63 hl (k := 0) rfl rfl (by decide) rfl (fun ls hl => ?_)
                  refine lv_goto (tgt := 12) hx hb dX6_sorts_66 (by decide) ?_
                  exact ih12 _ _ (cs1 j1 c15) (cs2 c15) (csm c15 jm) (Eq.trans hsp12 (Eq.trans (lp12_X6_sorts6_s _ _ _ _ _ _ _ _) (Eq.trans (if_neg c15) (Eq.trans (if_neg c19) (Eq.trans (if_pos c29) (rfl)))))) _ (lv_sub hl [0, 1, 2, 3, 4] rfl) _ _ hP hD hS
                · refine lv_goto (tgt := 45) hx hb dX6_sorts_32 (by decide) ?_
                  refine lv_aload_n hx hb dX6_sorts_45 rfl (lv_at hl 2 rfl) ?_
                  refine lv_iload_n hx hb dX6_sorts_46 rfl (lv_at hl 1 rfl) ?_
                  refine va_iald hx hb hK hP 6 0 md_6 rfl (by assumption) dX6_sorts_47 ?_
                  refine lv_istore (lv' := [(5, .int _), (4, .int _), (3, .int _), (0, .ref _), (1, .int _), (2, .int _)]) hx hb dX6_sorts_48 hl (by decide) rfl (fun ls hl => ?_)
                  refine lv_aload_n hx hb dX6_sorts_50 rfl (lv_at hl 3 rfl) ?_
                  refine lv_iload_n hx hb dX6_sorts_51 rfl (lv_at hl 2 rfl) ?_
                  refine lv_aload_n hx hb dX6_sorts_52 rfl (lv_at hl 3 rfl) ?_
                  refine lv_iload hx hb dX6_sorts_53 (lv_at hl 1 rfl) ?_
                  refine va_iald hx hb hK hP 6 0 md_6 rfl (by assumption) dX6_sorts_55 ?_
                  refine my_iast hx hb hK hP hD hS 6 0 md_6 rfl (md_s6 _ _) (by assumption) dX6_sorts_56 (fun H locs hP hD hS => ?_)
                  refine lv_aload_n hx hb dX6_sorts_57 rfl (lv_at hl 3 rfl) ?_
                  refine lv_iload hx hb dX6_sorts_58 (lv_at hl 1 rfl) ?_
                  refine lv_iload hx hb dX6_sorts_60 (lv_at hl 0 rfl) ?_
                  refine my_iast hx hb hK hP hD hS 6 0 md_6 rfl (md_s6 _ _) (by assumption) dX6_sorts_62 (fun H locs hP hD hS => ?_)
                  refine lv_iinc (v := _ + (1 : Int32)) (lv' := [(4, .int _), (5, .int _), (3, .int _), (0, .ref _), (1, .int _), (2, .int _)]) hx hb dX6_sorts_63 hl (k := 1) rfl rfl (by decide) rfl (fun ls hl => ?_)
                  refine lv_goto (tgt := 12) hx hb dX6_sorts_66 (by decide) ?_
                  exact ih12 _ _ (cs1 j1 c15) (cs2 c15) (csm c15 jm) (Eq.trans hsp12 (Eq.trans (lp12_X6_sorts6_s _ _ _ _ _ _ _ _) (Eq.trans (if_neg c15) (Eq.trans (if_neg c19) (Eq.trans (if_neg c29) (rfl)))))) _ (lv_sub hl [0, 2, 3, 4, 5] rfl) _ _ hP hD hS
        exact L12 21 _ _ (cs1 i1 c4) (cs2 c4) (srt i1 c4 h2) (Eq.trans hsp2 (Eq.trans (lp2_X6_sorts6_s _ _ _ _ _ _) (Eq.trans (if_neg c4) (rfl)))) _ (lv_sub hl [0, 1, 2, 3, 4] rfl) _ _ hP hD hS
  exact L2 21 _ _ (by decide) (srt00 h0) (srt0 h2) (rfl) _ (lv_sub hl [0, 1, 2, 3] rfl) _ _ hP hD hS

def lp4_X6_number (N : Nat → Int32) : Nat → Int32 → Int32 → (Nat → Nat → Int32) → Int32 × (Nat → Nat → Int32)
  | 0, v1, v2, Zw => (0, Zw)
  | n + 1, v1, v2, Zw => if (3 : Int32) ≤ v2 then (if v2 = 0 then (((-1 : Int32), Zw)) else ((v1, Zw))) else (if (sp_X6_in (sp_X6_signAt N Zw (Zw 0 5)) (48 : Int32) (57 : Int32)) = 0 then (if v2 = 0 then (((-1 : Int32), Zw)) else ((v1, Zw))) else (let Z101 : Nat → Nat → Int32 := zu Zw 0 5 ((Zw 0 5) + (1 : Int32)); lp4_X6_number N n ((((10 : Int32) * v1) + (sp_X6_signAt N Zw (Zw 0 5))) - (48 : Int32)) (v2 + (1 : Int32)) Z101))
theorem lp4_X6_number_s (N : Nat → Int32) (n : Nat) (v1 : Int32) (v2 : Int32) (Zw : Nat → Nat → Int32) : lp4_X6_number N (n + 1) v1 v2 Zw = if (3 : Int32) ≤ v2 then (if v2 = 0 then (((-1 : Int32), Zw)) else ((v1, Zw))) else (if (sp_X6_in (sp_X6_signAt N Zw (Zw 0 5)) (48 : Int32) (57 : Int32)) = 0 then (if v2 = 0 then (((-1 : Int32), Zw)) else ((v1, Zw))) else (let Z101 : Nat → Nat → Int32 := zu Zw 0 5 ((Zw 0 5) + (1 : Int32)); lp4_X6_number N n ((((10 : Int32) * v1) + (sp_X6_signAt N Zw (Zw 0 5))) - (48 : Int32)) (v2 + (1 : Int32)) Z101)) := rfl
def sp_X6_number (N : Nat → Int32) (Z : Nat → Nat → Int32) : Int32 × (Nat → Nat → Int32) :=
  lp4_X6_number N 4 (0 : Int32) (0 : Int32) Z
set_option maxHeartbeats 4000000 in
set_option maxRecDepth 100000 in
theorem c_X6_number (l : Launch) (D : va_G) (cI cC cW : ClassId) (t : Nat → Nat) (a : Nat → Nat) (sz : Nat) (N : Nat → Int32) (Z : Nat → Nat → Int32) (h0 : 0 ≤ (Z 0 5).toInt) (hty : tyZ Z) : Met l yX6_number wsX6_number ({ frames := 1, cells := 0, slots := 0, locals := 22 }) (va_Pc [.ref (a 0)] (rwP D (tyL cI cC cW) (md cI a N Z) t sz)) (va_Qi (fun (r : Int32) (u : Nat → Nat → Int32) => (r, u) = sp_X6_number N Z) (fun u => rwB D (va_A (md cI a N Z) sz) (md cI a N u)) (va_A (md cI a N Z) sz)) 0 0 (va_A (md cI a N Z) sz) := by
  refine Met.ofW (cc := cX6_number) (maxL := 3) (ret := (some .int)) (by decide) rfl ?_
  intro p e s m args below meth c s₁ B hml hv
  obtain ⟨rfl, hsz, hP, hK, hD0, hX⟩ := hv
  have hx := B.exec
  have hb := B.bytes
  have hr := B.returns
  have hts := atoms_spec (ws := wsX6_number) B.pre
  have hown : s.vm.findClass RX6 = some m.cls := findClass_of_methodNamed B.named
  have hlocks := B.notSynchronized
  subst hsz
  have hD := hD0.self (sz := s.heap.size)
  generalize hAe : va_A (md cI a N Z) s.heap.size = A at hD hX ⊢
  have hA : ∀ q : Nat, s.heap.size ≤ q → A q := fun q h => by rw [← hAe]; exact Or.inr h
  have hS : va_S A s.heap s.heap [] := va_S.rf
  have wd1 : (Cond.fieldLink RX6 159 "PickSlotsModel" "at" "I").before [.ref (a 0)].toArray s = true := hts _ (List.mem_of_getElem? (i := 1) rfl)
  have hi6 : ∀ w ∈ wsX60, w ∈ wsX6_number := fun w h => List.mem_cons_of_mem _ (List.mem_append_right _ (h))
  have CF : CallFix p m c cX6_number 3 s [.ref (a 0)].toArray wsX6_number RX6 := ⟨hx, hb, hml, hown, hts⟩
  have hl := lv_entry ([.ref (a 0)]) (n := 3) (Nat.le_of_ble_eq_true rfl)
  rw [lg_entry_eq]
  generalize (lg_sl ([.ref (a 0)]) ++ List.replicate (3 - (lg_sl ([.ref (a 0)])).length) Slot.unset).toArray = ls at hl ⊢
  have hl : lv_has ls 3 [(0, .ref (a 0))] := hl
  refine lv_iconst (v := 0) hx hb dX6_number_0 (by decide) ?_
  refine lv_istore_n (lv' := [(1, .int _), (0, .ref _)]) hx hb dX6_number_1 rfl hl (by decide) rfl (fun ls hl => ?_)
  refine lv_iconst (v := 0) hx hb dX6_number_2 (by decide) ?_
  refine lv_istore_n (lv' := [(2, .int _), (1, .int _), (0, .ref _)]) hx hb dX6_number_3 rfl hl (by decide) rfl (fun ls hl => ?_)
  have L4 : ∀ (n4 : Nat) (v1 v2 : Int32) (Zw : Nat → Nat → Int32), (0 ≤ v2.toInt) → (v2.toInt ≤ (3 : Int32).toInt) → ((3 : Int32).toInt - v2.toInt < (n4 : Int)) → (0 ≤ (Zw 0 5).toInt) → (tyZ Zw) → sp_X6_number N Z = lp4_X6_number N (n4) v1 v2 Zw → ∀ (ls : Array Slot), lv_has ls 3 [(1, .int v1), (2, .int v2), (0, .ref (a 0))] → ∀ (H : Heap) (locs : List Loc), va_P D vwCl (md cI a N Zw) H → va_D A (md cI a N Zw) → va_S A s.heap H locs → W p l e (headSpec wsX6_number ({ frames := 1, cells := 0, slots := 0, locals := 22 } : Room)).room s m [.ref (a 0)].toArray below meth c H locs 0 0 (MQ below (va_Qi (fun (r : Int32) (u : Nat → Nat → Int32) => (r, u) = sp_X6_number N Z) (fun u => rwB D A (md cI a N u)) A) [.ref (a 0)].toArray s 0 0 A) (F0 m 4 ls []) := by
    intro n4
    induction n4 with
    | zero => intro v1 v2 Zw i1 i2 im ha ht; exfalso; omega
    | succ n4 ih4 =>
      intro v1 v2 Zw i1 i2 im ha ht hsp4 ls hl H locs hP hD hS
      refine lv_iload_n hx hb dX6_number_4 rfl (lv_at hl 1 rfl) ?_
      refine lv_iconst (v := 3) hx hb dX6_number_5 (by decide) ?_
      refine lv_icmp_ge (tgt := 60) hx hb dX6_number_6 (by decide) (fun c6 => ?_) (fun c6 => ?_)
      · refine lv_iload_n hx hb dX6_number_60 rfl (lv_at hl 1 rfl) ?_
        refine lv_if_ne (tgt := 68) hx hb dX6_number_61 (by decide) (fun c61 => ?_) (fun c61 => ?_)
        · refine lv_iload_n hx hb dX6_number_68 rfl (lv_at hl 0 rfl) ?_
          exact rw_ret _ hx hb hr hP hD hS (Eq.trans hsp4 (Eq.trans (lp4_X6_number_s _ _ _ _ _) (Eq.trans (if_pos c6) (Eq.trans (if_neg c61) (rfl))))) dX6_number_69 hlocks
        · refine lv_iconst (v := -1) hx hb dX6_number_64 (by decide) ?_
          refine lv_goto (tgt := 69) hx hb dX6_number_65 (by decide) ?_
          exact rw_ret _ hx hb hr hP hD hS (Eq.trans hsp4 (Eq.trans (lp4_X6_number_s _ _ _ _ _) (Eq.trans (if_pos c6) (Eq.trans (if_pos c61) (rfl))))) dX6_number_69 hlocks
      · refine lv_aload_n hx hb dX6_number_9 rfl (lv_at hl 2 rfl) ?_
        refine lv_aload_n hx hb dX6_number_10 rfl (lv_at hl 2 rfl) ?_
        refine va_get (D := D) (ci := 5) (C := RX6) (T := TX6) (N := 17) hx hb hts hi6 hown hK hP 0 md_0 rfl 11 (by decide) wd1 (fun _ h9 => h9) rfl dX6_number_11 ?_
        refine roV CF (c_X6_signAt l D cI cC cW t _ _ _ _ (by first | (with_reducible first | assumption | exact m20 (by assumption) (by assumption) | exact ga20 (by assumption) (by assumption) | exact w2 (by assumption) | exact w2 (min4 (by assumption)) | exact w2 (s46 (by assumption)) | exact min4 (by assumption) | exact s46 (by assumption) | exact min11 (by assumption) (by assumption)) | (unfold vp_in; decide) | ((with_reducible (repeat (first | assumption | (refine sf_lays ?_ ?_ ?_; (with_reducible first | assumption | exact m20 (by assumption) (by assumption) | exact ga20 (by assumption) (by assumption)); (with_reducible first | exact v11_0 | exact v11_1 | exact v11_6 | exact v11_7 | exact v11_8 | exact v11_9 | exact v11_10 | exact w2 (by assumption) | exact w2 (min4 (by assumption)))) | (refine sf_adds ?_ ?_; (with_reducible first | exact v8_0 | exact v8_1 | exact v8_2 | exact v8_3 | exact v8_4 | exact v8_5 | exact v8_6 | exact v8_7)) | (refine sf_u (by omega) ?_)))); done)) (by first | (with_reducible first | assumption | exact m20 (by assumption) (by assumption) | exact ga20 (by assumption) (by assumption) | exact w2 (by assumption) | exact w2 (min4 (by assumption)) | exact w2 (s46 (by assumption)) | exact min4 (by assumption) | exact s46 (by assumption) | exact min11 (by assumption) (by assumption)) | (unfold vp_in; decide) | ((with_reducible (repeat (first | assumption | (refine sf_lays ?_ ?_ ?_; (with_reducible first | assumption | exact m20 (by assumption) (by assumption) | exact ga20 (by assumption) (by assumption)); (with_reducible first | exact v11_0 | exact v11_1 | exact v11_6 | exact v11_7 | exact v11_8 | exact v11_9 | exact v11_10 | exact w2 (by assumption) | exact w2 (min4 (by assumption)))) | (refine sf_adds ?_ ?_; (with_reducible first | exact v8_0 | exact v8_1 | exact v8_2 | exact v8_3 | exact v8_4 | exact v8_5 | exact v8_6 | exact v8_7)) | (refine sf_u (by omega) ?_)))); done))) (cwV 1 hts gX6_number_X6_signAt rfl rfl rfl (by decide +kernel) ⟨Nat.le_of_ble_eq_true rfl, Nat.le_of_ble_eq_true rfl⟩) hP hK hX hS 0 5 md_0 rfl rfl hl.1 rfl (Nat.le_of_ble_eq_true rfl) dX6_number_14 ⟨Nat.zero_le _, Nat.zero_le _⟩ ?_
        refine lv_bipush (v := 48) hx hb dX6_number_17 (by decide) ?_
        refine lv_bipush (v := 57) hx hb dX6_number_19 (by decide) ?_
        refine roS CF (c_X6_in l D cI cC cW t _ _ _ ) (va_cwS 3 hts gX6_number_X6_in rfl rfl rfl (by decide +kernel) ⟨Nat.le_of_ble_eq_true rfl, Nat.le_of_ble_eq_true rfl⟩) vP_nil hK hX hS rfl hl.1 rfl (Nat.le_of_ble_eq_true rfl) dX6_number_21 ⟨Nat.zero_le _, Nat.zero_le _⟩ ?_
        refine lv_if_eq (tgt := 60) hx hb dX6_number_24 (by decide) (fun c24 => ?_) (fun c24 => ?_)
        · refine lv_iload_n hx hb dX6_number_60 rfl (lv_at hl 1 rfl) ?_
          refine lv_if_ne (tgt := 68) hx hb dX6_number_61 (by decide) (fun c61 => ?_) (fun c61 => ?_)
          · refine lv_iload_n hx hb dX6_number_68 rfl (lv_at hl 0 rfl) ?_
            exact rw_ret _ hx hb hr hP hD hS (Eq.trans hsp4 (Eq.trans (lp4_X6_number_s _ _ _ _ _) (Eq.trans (if_neg c6) (Eq.trans (if_pos c24) (Eq.trans (if_neg c61) (rfl)))))) dX6_number_69 hlocks
          · refine lv_iconst (v := -1) hx hb dX6_number_64 (by decide) ?_
            refine lv_goto (tgt := 69) hx hb dX6_number_65 (by decide) ?_
            exact rw_ret _ hx hb hr hP hD hS (Eq.trans hsp4 (Eq.trans (lp4_X6_number_s _ _ _ _ _) (Eq.trans (if_neg c6) (Eq.trans (if_pos c24) (Eq.trans (if_pos c61) (rfl)))))) dX6_number_69 hlocks
        · refine lv_bipush (v := 10) hx hb dX6_number_27 (by decide) ?_
          refine lv_iload_n hx hb dX6_number_29 rfl (lv_at hl 0 rfl) ?_
          refine lv_imul hx hb dX6_number_30 ?_
          refine lv_aload_n hx hb dX6_number_31 rfl (lv_at hl 2 rfl) ?_
          refine lv_aload_n hx hb dX6_number_32 rfl (lv_at hl 2 rfl) ?_
          refine va_get (D := D) (ci := 5) (C := RX6) (T := TX6) (N := 17) hx hb hts hi6 hown hK hP 0 md_0 rfl 11 (by decide) wd1 (fun _ h9 => h9) rfl dX6_number_33 ?_
          refine roV CF (c_X6_signAt l D cI cC cW t _ _ _ _ (by first | (with_reducible first | assumption | exact m20 (by assumption) (by assumption) | exact ga20 (by assumption) (by assumption) | exact w2 (by assumption) | exact w2 (min4 (by assumption)) | exact w2 (s46 (by assumption)) | exact min4 (by assumption) | exact s46 (by assumption) | exact min11 (by assumption) (by assumption)) | (unfold vp_in; decide) | ((with_reducible (repeat (first | assumption | (refine sf_lays ?_ ?_ ?_; (with_reducible first | assumption | exact m20 (by assumption) (by assumption) | exact ga20 (by assumption) (by assumption)); (with_reducible first | exact v11_0 | exact v11_1 | exact v11_6 | exact v11_7 | exact v11_8 | exact v11_9 | exact v11_10 | exact w2 (by assumption) | exact w2 (min4 (by assumption)))) | (refine sf_adds ?_ ?_; (with_reducible first | exact v8_0 | exact v8_1 | exact v8_2 | exact v8_3 | exact v8_4 | exact v8_5 | exact v8_6 | exact v8_7)) | (refine sf_u (by omega) ?_)))); done)) (by first | (with_reducible first | assumption | exact m20 (by assumption) (by assumption) | exact ga20 (by assumption) (by assumption) | exact w2 (by assumption) | exact w2 (min4 (by assumption)) | exact w2 (s46 (by assumption)) | exact min4 (by assumption) | exact s46 (by assumption) | exact min11 (by assumption) (by assumption)) | (unfold vp_in; decide) | ((with_reducible (repeat (first | assumption | (refine sf_lays ?_ ?_ ?_; (with_reducible first | assumption | exact m20 (by assumption) (by assumption) | exact ga20 (by assumption) (by assumption)); (with_reducible first | exact v11_0 | exact v11_1 | exact v11_6 | exact v11_7 | exact v11_8 | exact v11_9 | exact v11_10 | exact w2 (by assumption) | exact w2 (min4 (by assumption)))) | (refine sf_adds ?_ ?_; (with_reducible first | exact v8_0 | exact v8_1 | exact v8_2 | exact v8_3 | exact v8_4 | exact v8_5 | exact v8_6 | exact v8_7)) | (refine sf_u (by omega) ?_)))); done))) (cwV 1 hts gX6_number_X6_signAt rfl rfl rfl (by decide +kernel) ⟨Nat.le_of_ble_eq_true rfl, Nat.le_of_ble_eq_true rfl⟩) hP hK hX hS 0 5 md_0 rfl rfl hl.1 rfl (Nat.le_of_ble_eq_true rfl) dX6_number_36 ⟨Nat.zero_le _, Nat.zero_le _⟩ ?_
          refine lv_iadd hx hb dX6_number_39 ?_
          refine lv_bipush (v := 48) hx hb dX6_number_40 (by decide) ?_
          refine lv_isub hx hb dX6_number_42 ?_
          refine lv_istore_n (lv' := [(1, .int _), (2, .int _), (0, .ref _)]) hx hb dX6_number_43 rfl hl (by decide) rfl (fun ls hl => ?_)
          refine lv_aload_n hx hb dX6_number_44 rfl (lv_at hl 2 rfl) ?_
          refine lv_dup hx hb dX6_number_45 rfl ?_
          refine va_get (D := D) (ci := 5) (C := RX6) (T := TX6) (N := 17) hx hb hts hi6 hown hK hP 0 md_0 rfl 11 (by decide) wd1 (fun _ h9 => h9) rfl dX6_number_46 ?_
          refine lv_iconst (v := 1) hx hb dX6_number_49 (by decide) ?_
          refine lv_iadd hx hb dX6_number_50 ?_
          refine my_put (D := D) (ci := 5) (C := RX6) (T := TX6) (N := 17) (ty := .int) hx hb hts hi6 tyX6 tyX6_ok nmX6 hown hK hP hD hS 0 md_0 rfl 11 (by decide) wd1 (fun _ h9 => h9) rfl (by decide +kernel) rfl rfl (Nat.le_of_ble_eq_true rfl) (md_f11 _) dX6_number_51 (fun H locs hP hD hS => ?_)
          refine lv_iinc (v := _ + (1 : Int32)) (lv' := [(2, .int _), (1, .int _), (0, .ref _)]) hx hb dX6_number_54 hl (k := 1) rfl rfl (by decide) rfl (fun ls hl => ?_)
          refine lv_goto (tgt := 4) hx hb dX6_number_57 (by decide) ?_
          exact ih4 _ _ _ (cs1 i1 c6) (cs2 c6) (csm c6 im) (at_digit ha c24) (ty_zu (by decide) ht) (Eq.trans hsp4 (Eq.trans (lp4_X6_number_s _ _ _ _ _) (Eq.trans (if_neg c6) (Eq.trans (if_neg c24) (rfl))))) _ (lv_sub hl [1, 0, 2] rfl) _ _ hP hD hS
  exact L4 4 _ _ _ (by decide) (by decide) (by decide) (h0) (hty) (rfl) _ (lv_sub hl [1, 0, 2] rfl) _ _ hP hD hS

def sp_X6_isThere (N : Nat → Int32) (Z : Nat → Nat → Int32) : Int32 :=
  if (Z 0 6) = (119 : Int32) then ((1 : Int32)) else (if (sp_X6_isGood N Z (Z 0 7)) = 0 then ((0 : Int32)) else (if (Z 0 6) = (109 : Int32) then (if (sp_X6_isSlot (Z 0 8)) = 0 then ((0 : Int32)) else (if (Z 0 6) = (120 : Int32) then (if (sp_X6_isGood N Z (Z 0 8)) = 0 then ((0 : Int32)) else ((1 : Int32))) else ((1 : Int32)))) else (if (Z 0 6) = (120 : Int32) then (if (sp_X6_isGood N Z (Z 0 8)) = 0 then ((0 : Int32)) else ((1 : Int32))) else ((1 : Int32)))))
set_option maxHeartbeats 4000000 in
set_option maxRecDepth 100000 in
theorem c_X6_isThere (l : Launch) (D : va_G) (cI cC cW : ClassId) (t : Nat → Nat) (a : Nat → Nat) (N : Nat → Int32) (Z : Nat → Nat → Int32)  : Met l yX6_isThere wsX6_isThere ({ frames := 2, cells := 0, slots := 0, locals := 43 }) (va_Pc [.ref (a 0)] (roP D (tyL cI cC cW) (md cI a N Z) t)) (vp_Si (fun r => r = sp_X6_isThere N Z)) 0 0 (fun _ => False) := by
  refine Met.ofW (cc := cX6_isThere) (maxL := 1) (ret := (some .boolean)) (by decide) rfl ?_
  intro p e s m args below meth c s₁ B hml hv
  obtain ⟨rfl, hP, hK, hX⟩ := hv
  have hx := B.exec
  have hb := B.bytes
  have hr := B.returns
  have hts := atoms_spec (ws := wsX6_isThere) B.pre
  have hown : s.vm.findClass RX6 = some m.cls := findClass_of_methodNamed B.named
  have hlocks := B.notSynchronized
  have hS : va_S (fun _ => False) s.heap s.heap [] := va_S.rf
  have wd1 : (Cond.fieldLink RX6 165 "PickSlotsModel" "letter" "I").before [.ref (a 0)].toArray s = true := hts _ (List.mem_of_getElem? (i := 1) rfl)
  have wd2 : (Cond.fieldLink RX6 168 "PickSlotsModel" "first" "I").before [.ref (a 0)].toArray s = true := hts _ (List.mem_of_getElem? (i := 2) rfl)
  have wd3 : (Cond.fieldLink RX6 171 "PickSlotsModel" "second" "I").before [.ref (a 0)].toArray s = true := hts _ (List.mem_of_getElem? (i := 3) rfl)
  have hi6 : ∀ w ∈ wsX60, w ∈ wsX6_isThere := fun w h => List.mem_cons_of_mem _ (List.mem_append_right _ (h))
  have CF : CallFix p m c cX6_isThere 1 s [.ref (a 0)].toArray wsX6_isThere RX6 := ⟨hx, hb, hml, hown, hts⟩
  have hl := lv_entry ([.ref (a 0)]) (n := 1) (Nat.le_of_ble_eq_true rfl)
  rw [lg_entry_eq]
  generalize (lg_sl ([.ref (a 0)]) ++ List.replicate (1 - (lg_sl ([.ref (a 0)])).length) Slot.unset).toArray = ls at hl ⊢
  have hl : lv_has ls 1 [(0, .ref (a 0))] := hl
  refine lv_aload_n hx hb dX6_isThere_0 rfl (lv_at hl 0 rfl) ?_
  refine va_get (D := D) (ci := 5) (C := RX6) (T := TX6) (N := 17) hx hb hts hi6 hown hK hP 0 md_0 rfl 12 (by decide) wd1 (fun _ h9 => h9) rfl dX6_isThere_1 ?_
  refine lv_bipush (v := 119) hx hb dX6_isThere_4 (by decide) ?_
  refine lv_icmp_eq (tgt := 59) hx hb dX6_isThere_6 (by decide) (fun c6 => ?_) (fun c6 => ?_)
  · refine lv_iconst (v := 1) hx hb dX6_isThere_59 (by decide) ?_
    refine lv_goto (tgt := 64) hx hb dX6_isThere_60 (by decide) ?_
    exact ro_zret hx hb hr (rfl) (Eq.trans (if_pos c6) (rfl)) dX6_isThere_64 hlocks
  · refine lv_aload_n hx hb dX6_isThere_9 rfl (lv_at hl 0 rfl) ?_
    refine lv_aload_n hx hb dX6_isThere_10 rfl (lv_at hl 0 rfl) ?_
    refine va_get (D := D) (ci := 5) (C := RX6) (T := TX6) (N := 17) hx hb hts hi6 hown hK hP 0 md_0 rfl 13 (by decide) wd2 (fun _ h9 => h9) rfl dX6_isThere_11 ?_
    refine roV CF (c_X6_isGood l D cI cC cW t _ _ _ _ ) (cwV 1 hts gX6_isThere_X6_isGood rfl rfl rfl (by decide +kernel) ⟨Nat.le_of_ble_eq_true rfl, Nat.le_of_ble_eq_true rfl⟩) hP hK hX hS 0 5 md_0 rfl rfl hl.1 rfl (Nat.le_of_ble_eq_true rfl) dX6_isThere_14 ⟨Nat.zero_le _, Nat.zero_le _⟩ ?_
    refine lv_if_eq (tgt := 63) hx hb dX6_isThere_17 (by decide) (fun c17 => ?_) (fun c17 => ?_)
    · refine lv_iconst (v := 0) hx hb dX6_isThere_63 (by decide) ?_
      exact ro_zret hx hb hr (rfl) (Eq.trans (if_neg c6) (Eq.trans (if_pos c17) (rfl))) dX6_isThere_64 hlocks
    · refine lv_aload_n hx hb dX6_isThere_20 rfl (lv_at hl 0 rfl) ?_
      refine va_get (D := D) (ci := 5) (C := RX6) (T := TX6) (N := 17) hx hb hts hi6 hown hK hP 0 md_0 rfl 12 (by decide) wd1 (fun _ h9 => h9) rfl dX6_isThere_21 ?_
      refine lv_bipush (v := 109) hx hb dX6_isThere_24 (by decide) ?_
      refine lv_icmp_ne (tgt := 39) hx hb dX6_isThere_26 (by decide) (fun c26 => ?_) (fun c26 => ?_)
      · refine lv_aload_n hx hb dX6_isThere_39 rfl (lv_at hl 0 rfl) ?_
        refine va_get (D := D) (ci := 5) (C := RX6) (T := TX6) (N := 17) hx hb hts hi6 hown hK hP 0 md_0 rfl 12 (by decide) wd1 (fun _ h9 => h9) rfl dX6_isThere_40 ?_
        refine lv_bipush (v := 120) hx hb dX6_isThere_43 (by decide) ?_
        refine lv_icmp_ne (tgt := 59) hx hb dX6_isThere_45 (by decide) (fun c45 => ?_) (fun c45 => ?_)
        · refine lv_iconst (v := 1) hx hb dX6_isThere_59 (by decide) ?_
          refine lv_goto (tgt := 64) hx hb dX6_isThere_60 (by decide) ?_
          exact ro_zret hx hb hr (rfl) (Eq.trans (if_neg c6) (Eq.trans (if_neg c17) (Eq.trans (if_neg c26) (Eq.trans (if_neg c45) (rfl))))) dX6_isThere_64 hlocks
        · refine lv_aload_n hx hb dX6_isThere_48 rfl (lv_at hl 0 rfl) ?_
          refine lv_aload_n hx hb dX6_isThere_49 rfl (lv_at hl 0 rfl) ?_
          refine va_get (D := D) (ci := 5) (C := RX6) (T := TX6) (N := 17) hx hb hts hi6 hown hK hP 0 md_0 rfl 14 (by decide) wd3 (fun _ h9 => h9) rfl dX6_isThere_50 ?_
          refine roV CF (c_X6_isGood l D cI cC cW t _ _ _ _ ) (cwV 1 hts gX6_isThere_X6_isGood rfl rfl rfl (by decide +kernel) ⟨Nat.le_of_ble_eq_true rfl, Nat.le_of_ble_eq_true rfl⟩) hP hK hX hS 0 5 md_0 rfl rfl hl.1 rfl (Nat.le_of_ble_eq_true rfl) dX6_isThere_53 ⟨Nat.zero_le _, Nat.zero_le _⟩ ?_
          refine lv_if_eq (tgt := 63) hx hb dX6_isThere_56 (by decide) (fun c56 => ?_) (fun c56 => ?_)
          · refine lv_iconst (v := 0) hx hb dX6_isThere_63 (by decide) ?_
            exact ro_zret hx hb hr (rfl) (Eq.trans (if_neg c6) (Eq.trans (if_neg c17) (Eq.trans (if_neg c26) (Eq.trans (if_pos c45) (Eq.trans (if_pos c56) (rfl)))))) dX6_isThere_64 hlocks
          · refine lv_iconst (v := 1) hx hb dX6_isThere_59 (by decide) ?_
            refine lv_goto (tgt := 64) hx hb dX6_isThere_60 (by decide) ?_
            exact ro_zret hx hb hr (rfl) (Eq.trans (if_neg c6) (Eq.trans (if_neg c17) (Eq.trans (if_neg c26) (Eq.trans (if_pos c45) (Eq.trans (if_neg c56) (rfl)))))) dX6_isThere_64 hlocks
      · refine lv_aload_n hx hb dX6_isThere_29 rfl (lv_at hl 0 rfl) ?_
        refine va_get (D := D) (ci := 5) (C := RX6) (T := TX6) (N := 17) hx hb hts hi6 hown hK hP 0 md_0 rfl 14 (by decide) wd3 (fun _ h9 => h9) rfl dX6_isThere_30 ?_
        refine roS CF (c_X6_isSlot l D cI cC cW t _ ) (va_cwS 1 hts gX6_isThere_X6_isSlot rfl rfl rfl (by decide +kernel) ⟨Nat.le_of_ble_eq_true rfl, Nat.le_of_ble_eq_true rfl⟩) vP_nil hK hX hS rfl hl.1 rfl (Nat.le_of_ble_eq_true rfl) dX6_isThere_33 ⟨Nat.zero_le _, Nat.zero_le _⟩ ?_
        refine lv_if_eq (tgt := 63) hx hb dX6_isThere_36 (by decide) (fun c36 => ?_) (fun c36 => ?_)
        · refine lv_iconst (v := 0) hx hb dX6_isThere_63 (by decide) ?_
          exact ro_zret hx hb hr (rfl) (Eq.trans (if_neg c6) (Eq.trans (if_neg c17) (Eq.trans (if_pos c26) (Eq.trans (if_pos c36) (rfl))))) dX6_isThere_64 hlocks
        · refine lv_aload_n hx hb dX6_isThere_39 rfl (lv_at hl 0 rfl) ?_
          refine va_get (D := D) (ci := 5) (C := RX6) (T := TX6) (N := 17) hx hb hts hi6 hown hK hP 0 md_0 rfl 12 (by decide) wd1 (fun _ h9 => h9) rfl dX6_isThere_40 ?_
          refine lv_bipush (v := 120) hx hb dX6_isThere_43 (by decide) ?_
          refine lv_icmp_ne (tgt := 59) hx hb dX6_isThere_45 (by decide) (fun c45 => ?_) (fun c45 => ?_)
          · refine lv_iconst (v := 1) hx hb dX6_isThere_59 (by decide) ?_
            refine lv_goto (tgt := 64) hx hb dX6_isThere_60 (by decide) ?_
            exact ro_zret hx hb hr (rfl) (Eq.trans (if_neg c6) (Eq.trans (if_neg c17) (Eq.trans (if_pos c26) (Eq.trans (if_neg c36) (Eq.trans (if_neg c45) (rfl)))))) dX6_isThere_64 hlocks
          · refine lv_aload_n hx hb dX6_isThere_48 rfl (lv_at hl 0 rfl) ?_
            refine lv_aload_n hx hb dX6_isThere_49 rfl (lv_at hl 0 rfl) ?_
            refine va_get (D := D) (ci := 5) (C := RX6) (T := TX6) (N := 17) hx hb hts hi6 hown hK hP 0 md_0 rfl 14 (by decide) wd3 (fun _ h9 => h9) rfl dX6_isThere_50 ?_
            refine roV CF (c_X6_isGood l D cI cC cW t _ _ _ _ ) (cwV 1 hts gX6_isThere_X6_isGood rfl rfl rfl (by decide +kernel) ⟨Nat.le_of_ble_eq_true rfl, Nat.le_of_ble_eq_true rfl⟩) hP hK hX hS 0 5 md_0 rfl rfl hl.1 rfl (Nat.le_of_ble_eq_true rfl) dX6_isThere_53 ⟨Nat.zero_le _, Nat.zero_le _⟩ ?_
            refine lv_if_eq (tgt := 63) hx hb dX6_isThere_56 (by decide) (fun c56 => ?_) (fun c56 => ?_)
            · refine lv_iconst (v := 0) hx hb dX6_isThere_63 (by decide) ?_
              exact ro_zret hx hb hr (rfl) (Eq.trans (if_neg c6) (Eq.trans (if_neg c17) (Eq.trans (if_pos c26) (Eq.trans (if_neg c36) (Eq.trans (if_pos c45) (Eq.trans (if_pos c56) (rfl))))))) dX6_isThere_64 hlocks
            · refine lv_iconst (v := 1) hx hb dX6_isThere_59 (by decide) ?_
              refine lv_goto (tgt := 64) hx hb dX6_isThere_60 (by decide) ?_
              exact ro_zret hx hb hr (rfl) (Eq.trans (if_neg c6) (Eq.trans (if_neg c17) (Eq.trans (if_pos c26) (Eq.trans (if_neg c36) (Eq.trans (if_pos c45) (Eq.trans (if_neg c56) (rfl))))))) dX6_isThere_64 hlocks
theorem zb_X6_isThere {N : Nat → Int32} {Z : Nat → Nat → Int32} : narrow .boolean (.int (sp_X6_isThere N Z)) = .int (sp_X6_isThere N Z) := by
  unfold sp_X6_isThere
  (repeat' split) <;> first | (with_reducible exact zb_X6_isGood) | (with_reducible exact zb_X6_isSlot) | rfl

def sp_X6_place (N : Nat → Int32) (Z : Nat → Nat → Int32) (x1 x2 : Int32) : Int32 × ((Nat → Int32) × (Nat → Nat → Int32)) :=
  if (sp_X6_isGood N Z x1) = 0 then (((-1 : Int32), (N, Z))) else (if (sp_X6_isSlot x2) = 0 then (((-1 : Int32), (N, Z))) else (if (sp_X6_of N Z x1 (6 : Int32)) = (-1 : Int32) then (if (sp_X6_goodAt N Z x2) = (-1 : Int32) then (if (sp_X6_mayBe N Z x1 x2) = 0 then (((-2 : Int32), (N, Z))) else (let k50_1 : Nat → Nat → Int32 := sp_X6_records N Z; let k58_2 : Nat → Int32 := sp_X6_lays N k50_1 x1 (6 : Int32) x2; let k79_3 : Nat → Int32 := sp_X6_adds k58_2 k50_1 (5 : Int32) ((sp_X6_of k58_2 k50_1 x1 ((2 : Int32) + (sp_X6_season k58_2 k50_1))) * (sp_X6_walk x2)); ((sp_X6_walk x2), (k79_3, k50_1)))) else (((-2 : Int32), (N, Z)))) else (((-2 : Int32), (N, Z)))))
set_option maxHeartbeats 4000000 in
set_option maxRecDepth 100000 in
theorem c_X6_place (l : Launch) (D : va_G) (cI cC cW : ClassId) (t : Nat → Nat) (a : Nat → Nat) (sz : Nat) (N : Nat → Int32) (Z : Nat → Nat → Int32) (x1 x2 : Int32) (hsf : sfN N) (hps : psZ Z) : Met l yX6_place wsX6_place ({ frames := 2, cells := 0, slots := 0, locals := 45 }) (va_Pc [.ref (a 0), .int x1, .int x2] (rwP D (tyL cI cC cW) (md cI a N Z) t sz)) (va_Qi (fun (r : Int32) (u : ((Nat → Int32) × (Nat → Nat → Int32))) => (r, u) = sp_X6_place N Z x1 x2) (fun u => rwB D (va_A (md cI a N Z) sz) (md cI a u.1 u.2)) (va_A (md cI a N Z) sz)) 0 0 (va_A (md cI a N Z) sz) := by
  refine Met.ofW (cc := cX6_place) (maxL := 3) (ret := (some .int)) (by decide) rfl ?_
  intro p e s m args below meth c s₁ B hml hv
  obtain ⟨rfl, hsz, hP, hK, hD0, hX⟩ := hv
  have hx := B.exec
  have hb := B.bytes
  have hr := B.returns
  have hts := atoms_spec (ws := wsX6_place) B.pre
  have hown : s.vm.findClass RX6 = some m.cls := findClass_of_methodNamed B.named
  have hlocks := B.notSynchronized
  subst hsz
  have hD := hD0.self (sz := s.heap.size)
  generalize hAe : va_A (md cI a N Z) s.heap.size = A at hD hX ⊢
  have hA : ∀ q : Nat, s.heap.size ≤ q → A q := fun q h => by rw [← hAe]; exact Or.inr h
  have hS : va_S A s.heap s.heap [] := va_S.rf
  have CF : CallFix p m c cX6_place 3 s [.ref (a 0), .int x1, .int x2].toArray wsX6_place RX6 := ⟨hx, hb, hml, hown, hts⟩
  have hl := lv_entry ([.ref (a 0), .int x1, .int x2]) (n := 3) (Nat.le_of_ble_eq_true rfl)
  rw [lg_entry_eq]
  generalize (lg_sl ([.ref (a 0), .int x1, .int x2]) ++ List.replicate (3 - (lg_sl ([.ref (a 0), .int x1, .int x2])).length) Slot.unset).toArray = ls at hl ⊢
  have hl : lv_has ls 3 [(0, .ref (a 0)), (1, .int x1), (2, .int x2)] := hl
  refine lv_aload_n hx hb dX6_place_0 rfl (lv_at hl 0 rfl) ?_
  refine lv_iload_n hx hb dX6_place_1 rfl (lv_at hl 1 rfl) ?_
  refine roV CF (c_X6_isGood l D cI cC cW t _ _ _ _ ) (cwV 1 hts gX6_place_X6_isGood rfl rfl rfl (by decide +kernel) ⟨Nat.le_of_ble_eq_true rfl, Nat.le_of_ble_eq_true rfl⟩) hP hK hX hS 0 5 md_0 rfl rfl hl.1 rfl (Nat.le_of_ble_eq_true rfl) dX6_place_2 ⟨Nat.zero_le _, Nat.zero_le _⟩ ?_
  refine lv_if_eq (tgt := 15) hx hb dX6_place_5 (by decide) (fun c5 => ?_) (fun c5 => ?_)
  · refine lv_iconst (v := -1) hx hb dX6_place_15 (by decide) ?_
    exact rwM_ret hx hb hr hP hD hS (Eq.trans (if_pos c5) (rfl)) dX6_place_16 hlocks
  · refine lv_iload_n hx hb dX6_place_8 rfl (lv_at hl 2 rfl) ?_
    refine roS CF (c_X6_isSlot l D cI cC cW t _ ) (va_cwS 1 hts gX6_place_X6_isSlot rfl rfl rfl (by decide +kernel) ⟨Nat.le_of_ble_eq_true rfl, Nat.le_of_ble_eq_true rfl⟩) vP_nil hK hX hS rfl hl.1 rfl (Nat.le_of_ble_eq_true rfl) dX6_place_9 ⟨Nat.zero_le _, Nat.zero_le _⟩ ?_
    refine lv_if_ne (tgt := 17) hx hb dX6_place_12 (by decide) (fun c12 => ?_) (fun c12 => ?_)
    · refine lv_aload_n hx hb dX6_place_17 rfl (lv_at hl 0 rfl) ?_
      refine lv_iload_n hx hb dX6_place_18 rfl (lv_at hl 1 rfl) ?_
      refine lv_bipush (v := 6) hx hb dX6_place_19 (by decide) ?_
      refine roV CF (c_X6_of l D cI cC cW t _ _ _ _ _ (by first | (with_reducible first | assumption | exact m20 (by assumption) (by assumption) | exact ga20 (by assumption) (by assumption) | exact w2 (by assumption) | exact w2 (min4 (by assumption)) | exact w2 (s46 (by assumption)) | exact min4 (by assumption) | exact s46 (by assumption) | exact min11 (by assumption) (by assumption)) | (unfold vp_in; decide) | ((with_reducible (repeat (first | assumption | (refine sf_lays ?_ ?_ ?_; (with_reducible first | assumption | exact m20 (by assumption) (by assumption) | exact ga20 (by assumption) (by assumption)); (with_reducible first | exact v11_0 | exact v11_1 | exact v11_6 | exact v11_7 | exact v11_8 | exact v11_9 | exact v11_10 | exact w2 (by assumption) | exact w2 (min4 (by assumption)))) | (refine sf_adds ?_ ?_; (with_reducible first | exact v8_0 | exact v8_1 | exact v8_2 | exact v8_3 | exact v8_4 | exact v8_5 | exact v8_6 | exact v8_7)) | (refine sf_u (by omega) ?_)))); done)) (by first | (with_reducible first | assumption | exact m20 (by assumption) (by assumption) | exact ga20 (by assumption) (by assumption) | exact w2 (by assumption) | exact w2 (min4 (by assumption)) | exact w2 (s46 (by assumption)) | exact min4 (by assumption) | exact s46 (by assumption) | exact min11 (by assumption) (by assumption)) | (unfold vp_in; decide) | ((with_reducible (repeat (first | assumption | (refine sf_lays ?_ ?_ ?_; (with_reducible first | assumption | exact m20 (by assumption) (by assumption) | exact ga20 (by assumption) (by assumption)); (with_reducible first | exact v11_0 | exact v11_1 | exact v11_6 | exact v11_7 | exact v11_8 | exact v11_9 | exact v11_10 | exact w2 (by assumption) | exact w2 (min4 (by assumption)))) | (refine sf_adds ?_ ?_; (with_reducible first | exact v8_0 | exact v8_1 | exact v8_2 | exact v8_3 | exact v8_4 | exact v8_5 | exact v8_6 | exact v8_7)) | (refine sf_u (by omega) ?_)))); done))) (cwV 2 hts gX6_place_X6_of rfl rfl rfl (by decide +kernel) ⟨Nat.le_of_ble_eq_true rfl, Nat.le_of_ble_eq_true rfl⟩) hP hK hX hS 0 5 md_0 rfl rfl hl.1 rfl (Nat.le_of_ble_eq_true rfl) dX6_place_21 ⟨Nat.zero_le _, Nat.zero_le _⟩ ?_
      refine lv_iconst (v := -1) hx hb dX6_place_24 (by decide) ?_
      refine lv_icmp_ne (tgt := 46) hx hb dX6_place_25 (by decide) (fun c25 => ?_) (fun c25 => ?_)
      · refine lv_bipush (v := -2) hx hb dX6_place_46 (by decide) ?_
        exact rwM_ret hx hb hr hP hD hS (Eq.trans (if_neg c5) (Eq.trans (if_neg c12) (Eq.trans (if_neg c25) (rfl)))) dX6_place_48 hlocks
      · refine lv_aload_n hx hb dX6_place_28 rfl (lv_at hl 0 rfl) ?_
        refine lv_iload_n hx hb dX6_place_29 rfl (lv_at hl 2 rfl) ?_
        refine roV CF (c_X6_goodAt l D cI cC cW t _ _ _ _ (by first | (with_reducible first | assumption | exact m20 (by assumption) (by assumption) | exact ga20 (by assumption) (by assumption) | exact w2 (by assumption) | exact w2 (min4 (by assumption)) | exact w2 (s46 (by assumption)) | exact min4 (by assumption) | exact s46 (by assumption) | exact min11 (by assumption) (by assumption)) | (unfold vp_in; decide) | ((with_reducible (repeat (first | assumption | (refine sf_lays ?_ ?_ ?_; (with_reducible first | assumption | exact m20 (by assumption) (by assumption) | exact ga20 (by assumption) (by assumption)); (with_reducible first | exact v11_0 | exact v11_1 | exact v11_6 | exact v11_7 | exact v11_8 | exact v11_9 | exact v11_10 | exact w2 (by assumption) | exact w2 (min4 (by assumption)))) | (refine sf_adds ?_ ?_; (with_reducible first | exact v8_0 | exact v8_1 | exact v8_2 | exact v8_3 | exact v8_4 | exact v8_5 | exact v8_6 | exact v8_7)) | (refine sf_u (by omega) ?_)))); done))) (cwV 1 hts gX6_place_X6_goodAt rfl rfl rfl (by decide +kernel) ⟨Nat.le_of_ble_eq_true rfl, Nat.le_of_ble_eq_true rfl⟩) hP hK hX hS 0 5 md_0 rfl rfl hl.1 rfl (Nat.le_of_ble_eq_true rfl) dX6_place_30 ⟨Nat.zero_le _, Nat.zero_le _⟩ ?_
        refine lv_iconst (v := -1) hx hb dX6_place_33 (by decide) ?_
        refine lv_icmp_ne (tgt := 46) hx hb dX6_place_34 (by decide) (fun c34 => ?_) (fun c34 => ?_)
        · refine lv_bipush (v := -2) hx hb dX6_place_46 (by decide) ?_
          exact rwM_ret hx hb hr hP hD hS (Eq.trans (if_neg c5) (Eq.trans (if_neg c12) (Eq.trans (if_pos c25) (Eq.trans (if_neg c34) (rfl))))) dX6_place_48 hlocks
        · refine lv_aload_n hx hb dX6_place_37 rfl (lv_at hl 0 rfl) ?_
          refine lv_iload_n hx hb dX6_place_38 rfl (lv_at hl 1 rfl) ?_
          refine lv_iload_n hx hb dX6_place_39 rfl (lv_at hl 2 rfl) ?_
          refine roV CF (c_X6_mayBe l D cI cC cW t _ _ _ _ _ (by first | (with_reducible first | assumption | exact m20 (by assumption) (by assumption) | exact ga20 (by assumption) (by assumption) | exact w2 (by assumption) | exact w2 (min4 (by assumption)) | exact w2 (s46 (by assumption)) | exact min4 (by assumption) | exact s46 (by assumption) | exact min11 (by assumption) (by assumption)) | (unfold vp_in; decide) | ((with_reducible (repeat (first | assumption | (refine sf_lays ?_ ?_ ?_; (with_reducible first | assumption | exact m20 (by assumption) (by assumption) | exact ga20 (by assumption) (by assumption)); (with_reducible first | exact v11_0 | exact v11_1 | exact v11_6 | exact v11_7 | exact v11_8 | exact v11_9 | exact v11_10 | exact w2 (by assumption) | exact w2 (min4 (by assumption)))) | (refine sf_adds ?_ ?_; (with_reducible first | exact v8_0 | exact v8_1 | exact v8_2 | exact v8_3 | exact v8_4 | exact v8_5 | exact v8_6 | exact v8_7)) | (refine sf_u (by omega) ?_)))); done))) (cwV 2 hts gX6_place_X6_mayBe rfl rfl rfl (by decide +kernel) ⟨Nat.le_of_ble_eq_true rfl, Nat.le_of_ble_eq_true rfl⟩) hP hK hX hS 0 5 md_0 rfl rfl hl.1 rfl (Nat.le_of_ble_eq_true rfl) dX6_place_40 ⟨Nat.zero_le _, Nat.zero_le _⟩ ?_
          refine lv_if_ne (tgt := 49) hx hb dX6_place_43 (by decide) (fun c43 => ?_) (fun c43 => ?_)
          · refine lv_aload_n hx hb dX6_place_49 rfl (lv_at hl 0 rfl) ?_
            refine rwVv CF (c_X6_records l D cI cC cW t _ _ _ _  (by first | (with_reducible first | assumption | exact m20 (by assumption) (by assumption) | exact ga20 (by assumption) (by assumption) | exact w2 (by assumption) | exact w2 (min4 (by assumption)) | exact w2 (s46 (by assumption)) | exact min4 (by assumption) | exact s46 (by assumption) | exact min11 (by assumption) (by assumption)) | (unfold vp_in; decide) | ((with_reducible (repeat (first | assumption | (refine sf_lays ?_ ?_ ?_; (with_reducible first | assumption | exact m20 (by assumption) (by assumption) | exact ga20 (by assumption) (by assumption)); (with_reducible first | exact v11_0 | exact v11_1 | exact v11_6 | exact v11_7 | exact v11_8 | exact v11_9 | exact v11_10 | exact w2 (by assumption) | exact w2 (min4 (by assumption)))) | (refine sf_adds ?_ ?_; (with_reducible first | exact v8_0 | exact v8_1 | exact v8_2 | exact v8_3 | exact v8_4 | exact v8_5 | exact v8_6 | exact v8_7)) | (refine sf_u (by omega) ?_)))); done))) (cwV 0 hts gX6_place_X6_records rfl rfl rfl (by decide +kernel) ⟨Nat.le_of_ble_eq_true rfl, Nat.le_of_ble_eq_true rfl⟩) hP hD hK hX hS hA 0 5 md_0 rfl rfl hl.1 rfl (Nat.le_of_ble_eq_true rfl) dX6_place_50 ⟨Nat.zero_le _, Nat.zero_le _⟩ (fun H locs hP hD hS => ?_)
            refine lv_aload_n hx hb dX6_place_53 rfl (lv_at hl 0 rfl) ?_
            refine lv_iload_n hx hb dX6_place_54 rfl (lv_at hl 1 rfl) ?_
            refine lv_bipush (v := 6) hx hb dX6_place_55 (by decide) ?_
            refine lv_iload_n hx hb dX6_place_57 rfl (lv_at hl 2 rfl) ?_
            refine rwVv CF (c_X6_lays l D cI cC cW t _ _ _ _ _ _ _ (by first | (with_reducible first | assumption | exact m20 (by assumption) (by assumption) | exact ga20 (by assumption) (by assumption) | exact w2 (by assumption) | exact w2 (min4 (by assumption)) | exact w2 (s46 (by assumption)) | exact min4 (by assumption) | exact s46 (by assumption) | exact min11 (by assumption) (by assumption)) | (unfold vp_in; decide) | ((with_reducible (repeat (first | assumption | (refine sf_lays ?_ ?_ ?_; (with_reducible first | assumption | exact m20 (by assumption) (by assumption) | exact ga20 (by assumption) (by assumption)); (with_reducible first | exact v11_0 | exact v11_1 | exact v11_6 | exact v11_7 | exact v11_8 | exact v11_9 | exact v11_10 | exact w2 (by assumption) | exact w2 (min4 (by assumption)))) | (refine sf_adds ?_ ?_; (with_reducible first | exact v8_0 | exact v8_1 | exact v8_2 | exact v8_3 | exact v8_4 | exact v8_5 | exact v8_6 | exact v8_7)) | (refine sf_u (by omega) ?_)))); done)) (by first | (with_reducible first | assumption | exact m20 (by assumption) (by assumption) | exact ga20 (by assumption) (by assumption) | exact w2 (by assumption) | exact w2 (min4 (by assumption)) | exact w2 (s46 (by assumption)) | exact min4 (by assumption) | exact s46 (by assumption) | exact min11 (by assumption) (by assumption)) | (unfold vp_in; decide) | ((with_reducible (repeat (first | assumption | (refine sf_lays ?_ ?_ ?_; (with_reducible first | assumption | exact m20 (by assumption) (by assumption) | exact ga20 (by assumption) (by assumption)); (with_reducible first | exact v11_0 | exact v11_1 | exact v11_6 | exact v11_7 | exact v11_8 | exact v11_9 | exact v11_10 | exact w2 (by assumption) | exact w2 (min4 (by assumption)))) | (refine sf_adds ?_ ?_; (with_reducible first | exact v8_0 | exact v8_1 | exact v8_2 | exact v8_3 | exact v8_4 | exact v8_5 | exact v8_6 | exact v8_7)) | (refine sf_u (by omega) ?_)))); done))) (cwV 3 hts gX6_place_X6_lays rfl rfl rfl (by decide +kernel) ⟨Nat.le_of_ble_eq_true rfl, Nat.le_of_ble_eq_true rfl⟩) hP hD hK hX hS hA 0 5 md_0 rfl rfl hl.1 rfl (Nat.le_of_ble_eq_true rfl) dX6_place_58 ⟨Nat.zero_le _, Nat.zero_le _⟩ (fun H locs hP hD hS => ?_)
            refine lv_aload_n hx hb dX6_place_61 rfl (lv_at hl 0 rfl) ?_
            refine lv_iconst (v := 5) hx hb dX6_place_62 (by decide) ?_
            refine lv_aload_n hx hb dX6_place_63 rfl (lv_at hl 0 rfl) ?_
            refine lv_iload_n hx hb dX6_place_64 rfl (lv_at hl 1 rfl) ?_
            refine lv_iconst (v := 2) hx hb dX6_place_65 (by decide) ?_
            refine lv_aload_n hx hb dX6_place_66 rfl (lv_at hl 0 rfl) ?_
            refine roV CF (c_X6_season l D cI cC cW t _ _ _  ) (cwV 0 hts gX6_place_X6_season rfl rfl rfl (by decide +kernel) ⟨Nat.le_of_ble_eq_true rfl, Nat.le_of_ble_eq_true rfl⟩) hP hK hX hS 0 5 md_0 rfl rfl hl.1 rfl (Nat.le_of_ble_eq_true rfl) dX6_place_67 ⟨Nat.zero_le _, Nat.zero_le _⟩ ?_
            refine lv_iadd hx hb dX6_place_70 ?_
            refine roV CF (c_X6_of l D cI cC cW t _ _ _ _ _ (m20 hsf c5) (w2 (s46 (sf_lays (m20 hsf c5) v11_6 hsf)))) (cwV 2 hts gX6_place_X6_of rfl rfl rfl (by decide +kernel) ⟨Nat.le_of_ble_eq_true rfl, Nat.le_of_ble_eq_true rfl⟩) hP hK hX hS 0 5 md_0 rfl rfl hl.1 rfl (Nat.le_of_ble_eq_true rfl) dX6_place_71 ⟨Nat.zero_le _, Nat.zero_le _⟩ ?_
            refine lv_iload_n hx hb dX6_place_74 rfl (lv_at hl 2 rfl) ?_
            refine roS CF (c_X6_walk l D cI cC cW t _ ) (va_cwS 1 hts gX6_place_X6_walk rfl rfl rfl (by decide +kernel) ⟨Nat.le_of_ble_eq_true rfl, Nat.le_of_ble_eq_true rfl⟩) vP_nil hK hX hS rfl hl.1 rfl (Nat.le_of_ble_eq_true rfl) dX6_place_75 ⟨Nat.zero_le _, Nat.zero_le _⟩ ?_
            refine lv_imul hx hb dX6_place_78 ?_
            refine rwVv CF (c_X6_adds l D cI cC cW t _ _ _ _ _ _ (by first | (with_reducible first | assumption | exact m20 (by assumption) (by assumption) | exact ga20 (by assumption) (by assumption) | exact w2 (by assumption) | exact w2 (min4 (by assumption)) | exact w2 (s46 (by assumption)) | exact min4 (by assumption) | exact s46 (by assumption) | exact min11 (by assumption) (by assumption)) | (unfold vp_in; decide) | ((with_reducible (repeat (first | assumption | (refine sf_lays ?_ ?_ ?_; (with_reducible first | assumption | exact m20 (by assumption) (by assumption) | exact ga20 (by assumption) (by assumption)); (with_reducible first | exact v11_0 | exact v11_1 | exact v11_6 | exact v11_7 | exact v11_8 | exact v11_9 | exact v11_10 | exact w2 (by assumption) | exact w2 (min4 (by assumption)))) | (refine sf_adds ?_ ?_; (with_reducible first | exact v8_0 | exact v8_1 | exact v8_2 | exact v8_3 | exact v8_4 | exact v8_5 | exact v8_6 | exact v8_7)) | (refine sf_u (by omega) ?_)))); done))) (cwV 2 hts gX6_place_X6_adds rfl rfl rfl (by decide +kernel) ⟨Nat.le_of_ble_eq_true rfl, Nat.le_of_ble_eq_true rfl⟩) hP hD hK hX hS hA 0 5 md_0 rfl rfl hl.1 rfl (Nat.le_of_ble_eq_true rfl) dX6_place_79 ⟨Nat.zero_le _, Nat.zero_le _⟩ (fun H locs hP hD hS => ?_)
            refine lv_iload_n hx hb dX6_place_82 rfl (lv_at hl 2 rfl) ?_
            refine roS CF (c_X6_walk l D cI cC cW t _ ) (va_cwS 1 hts gX6_place_X6_walk rfl rfl rfl (by decide +kernel) ⟨Nat.le_of_ble_eq_true rfl, Nat.le_of_ble_eq_true rfl⟩) vP_nil hK hX hS rfl hl.1 rfl (Nat.le_of_ble_eq_true rfl) dX6_place_83 ⟨Nat.zero_le _, Nat.zero_le _⟩ ?_
            exact rwM_ret hx hb hr hP hD hS (Eq.trans (if_neg c5) (Eq.trans (if_neg c12) (Eq.trans (if_pos c25) (Eq.trans (if_pos c34) (Eq.trans (if_neg c43) (rfl)))))) dX6_place_86 hlocks
          · refine lv_bipush (v := -2) hx hb dX6_place_46 (by decide) ?_
            exact rwM_ret hx hb hr hP hD hS (Eq.trans (if_neg c5) (Eq.trans (if_neg c12) (Eq.trans (if_pos c25) (Eq.trans (if_pos c34) (Eq.trans (if_pos c43) (rfl)))))) dX6_place_48 hlocks
    · refine lv_iconst (v := -1) hx hb dX6_place_15 (by decide) ?_
      exact rwM_ret hx hb hr hP hD hS (Eq.trans (if_neg c5) (Eq.trans (if_pos c12) (rfl))) dX6_place_16 hlocks

def sp_X6_deliver (N : Nat → Int32) (Z : Nat → Nat → Int32) (x1 x2 : Int32) : Int32 × ((Nat → Int32) × (Nat → Nat → Int32)) :=
  if (sp_X6_isGood N Z x1) = 0 then (((-1 : Int32), (N, Z))) else (if (sp_X6_in x2 (1 : Int32) (5000 : Int32)) = 0 then (((-1 : Int32), (N, Z))) else (if ((sp_X6_of N Z x1 (8 : Int32)) + x2) ≤ (100000 : Int32) then (let k39_1 : Nat → Nat → Int32 := sp_X6_records N Z; let k55_2 : Nat → Int32 := sp_X6_lays N k39_1 x1 (8 : Int32) ((sp_X6_of N k39_1 x1 (8 : Int32)) + x2); ((sp_X6_of k55_2 k39_1 x1 (8 : Int32)), (k55_2, k39_1))) else (((-3 : Int32), (N, Z)))))
set_option maxHeartbeats 4000000 in
set_option maxRecDepth 100000 in
theorem c_X6_deliver (l : Launch) (D : va_G) (cI cC cW : ClassId) (t : Nat → Nat) (a : Nat → Nat) (sz : Nat) (N : Nat → Int32) (Z : Nat → Nat → Int32) (x1 x2 : Int32) (hsf : sfN N) (hps : psZ Z) : Met l yX6_deliver wsX6_deliver ({ frames := 2, cells := 0, slots := 0, locals := 45 }) (va_Pc [.ref (a 0), .int x1, .int x2] (rwP D (tyL cI cC cW) (md cI a N Z) t sz)) (va_Qi (fun (r : Int32) (u : ((Nat → Int32) × (Nat → Nat → Int32))) => (r, u) = sp_X6_deliver N Z x1 x2) (fun u => rwB D (va_A (md cI a N Z) sz) (md cI a u.1 u.2)) (va_A (md cI a N Z) sz)) 0 0 (va_A (md cI a N Z) sz) := by
  refine Met.ofW (cc := cX6_deliver) (maxL := 3) (ret := (some .int)) (by decide) rfl ?_
  intro p e s m args below meth c s₁ B hml hv
  obtain ⟨rfl, hsz, hP, hK, hD0, hX⟩ := hv
  have hx := B.exec
  have hb := B.bytes
  have hr := B.returns
  have hts := atoms_spec (ws := wsX6_deliver) B.pre
  have hown : s.vm.findClass RX6 = some m.cls := findClass_of_methodNamed B.named
  have hlocks := B.notSynchronized
  subst hsz
  have hD := hD0.self (sz := s.heap.size)
  generalize hAe : va_A (md cI a N Z) s.heap.size = A at hD hX ⊢
  have hA : ∀ q : Nat, s.heap.size ≤ q → A q := fun q h => by rw [← hAe]; exact Or.inr h
  have hS : va_S A s.heap s.heap [] := va_S.rf
  have wd1 : (Cond.constant RX6 76 (100000)).before [.ref (a 0), .int x1, .int x2].toArray s = true := hts _ (List.mem_of_getElem? (i := 1) rfl)
  have CF : CallFix p m c cX6_deliver 3 s [.ref (a 0), .int x1, .int x2].toArray wsX6_deliver RX6 := ⟨hx, hb, hml, hown, hts⟩
  have hl := lv_entry ([.ref (a 0), .int x1, .int x2]) (n := 3) (Nat.le_of_ble_eq_true rfl)
  rw [lg_entry_eq]
  generalize (lg_sl ([.ref (a 0), .int x1, .int x2]) ++ List.replicate (3 - (lg_sl ([.ref (a 0), .int x1, .int x2])).length) Slot.unset).toArray = ls at hl ⊢
  have hl : lv_has ls 3 [(0, .ref (a 0)), (1, .int x1), (2, .int x2)] := hl
  refine lv_aload_n hx hb dX6_deliver_0 rfl (lv_at hl 0 rfl) ?_
  refine lv_iload_n hx hb dX6_deliver_1 rfl (lv_at hl 1 rfl) ?_
  refine roV CF (c_X6_isGood l D cI cC cW t _ _ _ _ ) (cwV 1 hts gX6_deliver_X6_isGood rfl rfl rfl (by decide +kernel) ⟨Nat.le_of_ble_eq_true rfl, Nat.le_of_ble_eq_true rfl⟩) hP hK hX hS 0 5 md_0 rfl rfl hl.1 rfl (Nat.le_of_ble_eq_true rfl) dX6_deliver_2 ⟨Nat.zero_le _, Nat.zero_le _⟩ ?_
  refine lv_if_eq (tgt := 19) hx hb dX6_deliver_5 (by decide) (fun c5 => ?_) (fun c5 => ?_)
  · refine lv_iconst (v := -1) hx hb dX6_deliver_19 (by decide) ?_
    exact rwM_ret hx hb hr hP hD hS (Eq.trans (if_pos c5) (rfl)) dX6_deliver_20 hlocks
  · refine lv_iload_n hx hb dX6_deliver_8 rfl (lv_at hl 2 rfl) ?_
    refine lv_iconst (v := 1) hx hb dX6_deliver_9 (by decide) ?_
    refine lv_sipush (v := 5000) hx hb dX6_deliver_10 (by decide) ?_
    refine roS CF (c_X6_in l D cI cC cW t _ _ _ ) (va_cwS 3 hts gX6_deliver_X6_in rfl rfl rfl (by decide +kernel) ⟨Nat.le_of_ble_eq_true rfl, Nat.le_of_ble_eq_true rfl⟩) vP_nil hK hX hS rfl hl.1 rfl (Nat.le_of_ble_eq_true rfl) dX6_deliver_13 ⟨Nat.zero_le _, Nat.zero_le _⟩ ?_
    refine lv_if_ne (tgt := 21) hx hb dX6_deliver_16 (by decide) (fun c16 => ?_) (fun c16 => ?_)
    · refine lv_aload_n hx hb dX6_deliver_21 rfl (lv_at hl 0 rfl) ?_
      refine lv_iload_n hx hb dX6_deliver_22 rfl (lv_at hl 1 rfl) ?_
      refine lv_bipush (v := 8) hx hb dX6_deliver_23 (by decide) ?_
      refine roV CF (c_X6_of l D cI cC cW t _ _ _ _ _ (by first | (with_reducible first | assumption | exact m20 (by assumption) (by assumption) | exact ga20 (by assumption) (by assumption) | exact w2 (by assumption) | exact w2 (min4 (by assumption)) | exact w2 (s46 (by assumption)) | exact min4 (by assumption) | exact s46 (by assumption) | exact min11 (by assumption) (by assumption)) | (unfold vp_in; decide) | ((with_reducible (repeat (first | assumption | (refine sf_lays ?_ ?_ ?_; (with_reducible first | assumption | exact m20 (by assumption) (by assumption) | exact ga20 (by assumption) (by assumption)); (with_reducible first | exact v11_0 | exact v11_1 | exact v11_6 | exact v11_7 | exact v11_8 | exact v11_9 | exact v11_10 | exact w2 (by assumption) | exact w2 (min4 (by assumption)))) | (refine sf_adds ?_ ?_; (with_reducible first | exact v8_0 | exact v8_1 | exact v8_2 | exact v8_3 | exact v8_4 | exact v8_5 | exact v8_6 | exact v8_7)) | (refine sf_u (by omega) ?_)))); done)) (by first | (with_reducible first | assumption | exact m20 (by assumption) (by assumption) | exact ga20 (by assumption) (by assumption) | exact w2 (by assumption) | exact w2 (min4 (by assumption)) | exact w2 (s46 (by assumption)) | exact min4 (by assumption) | exact s46 (by assumption) | exact min11 (by assumption) (by assumption)) | (unfold vp_in; decide) | ((with_reducible (repeat (first | assumption | (refine sf_lays ?_ ?_ ?_; (with_reducible first | assumption | exact m20 (by assumption) (by assumption) | exact ga20 (by assumption) (by assumption)); (with_reducible first | exact v11_0 | exact v11_1 | exact v11_6 | exact v11_7 | exact v11_8 | exact v11_9 | exact v11_10 | exact w2 (by assumption) | exact w2 (min4 (by assumption)))) | (refine sf_adds ?_ ?_; (with_reducible first | exact v8_0 | exact v8_1 | exact v8_2 | exact v8_3 | exact v8_4 | exact v8_5 | exact v8_6 | exact v8_7)) | (refine sf_u (by omega) ?_)))); done))) (cwV 2 hts gX6_deliver_X6_of rfl rfl rfl (by decide +kernel) ⟨Nat.le_of_ble_eq_true rfl, Nat.le_of_ble_eq_true rfl⟩) hP hK hX hS 0 5 md_0 rfl rfl hl.1 rfl (Nat.le_of_ble_eq_true rfl) dX6_deliver_25 ⟨Nat.zero_le _, Nat.zero_le _⟩ ?_
      refine lv_iload_n hx hb dX6_deliver_28 rfl (lv_at hl 2 rfl) ?_
      refine lv_iadd hx hb dX6_deliver_29 ?_
      refine lv_ldc hx hb hown wd1 dX6_deliver_30 ?_
      refine lv_icmp_le (tgt := 38) hx hb dX6_deliver_32 (by decide) (fun c32 => ?_) (fun c32 => ?_)
      · refine lv_aload_n hx hb dX6_deliver_38 rfl (lv_at hl 0 rfl) ?_
        refine rwVv CF (c_X6_records l D cI cC cW t _ _ _ _  (by first | (with_reducible first | assumption | exact m20 (by assumption) (by assumption) | exact ga20 (by assumption) (by assumption) | exact w2 (by assumption) | exact w2 (min4 (by assumption)) | exact w2 (s46 (by assumption)) | exact min4 (by assumption) | exact s46 (by assumption) | exact min11 (by assumption) (by assumption)) | (unfold vp_in; decide) | ((with_reducible (repeat (first | assumption | (refine sf_lays ?_ ?_ ?_; (with_reducible first | assumption | exact m20 (by assumption) (by assumption) | exact ga20 (by assumption) (by assumption)); (with_reducible first | exact v11_0 | exact v11_1 | exact v11_6 | exact v11_7 | exact v11_8 | exact v11_9 | exact v11_10 | exact w2 (by assumption) | exact w2 (min4 (by assumption)))) | (refine sf_adds ?_ ?_; (with_reducible first | exact v8_0 | exact v8_1 | exact v8_2 | exact v8_3 | exact v8_4 | exact v8_5 | exact v8_6 | exact v8_7)) | (refine sf_u (by omega) ?_)))); done))) (cwV 0 hts gX6_deliver_X6_records rfl rfl rfl (by decide +kernel) ⟨Nat.le_of_ble_eq_true rfl, Nat.le_of_ble_eq_true rfl⟩) hP hD hK hX hS hA 0 5 md_0 rfl rfl hl.1 rfl (Nat.le_of_ble_eq_true rfl) dX6_deliver_39 ⟨Nat.zero_le _, Nat.zero_le _⟩ (fun H locs hP hD hS => ?_)
        refine lv_aload_n hx hb dX6_deliver_42 rfl (lv_at hl 0 rfl) ?_
        refine lv_iload_n hx hb dX6_deliver_43 rfl (lv_at hl 1 rfl) ?_
        refine lv_bipush (v := 8) hx hb dX6_deliver_44 (by decide) ?_
        refine lv_aload_n hx hb dX6_deliver_46 rfl (lv_at hl 0 rfl) ?_
        refine lv_iload_n hx hb dX6_deliver_47 rfl (lv_at hl 1 rfl) ?_
        refine lv_bipush (v := 8) hx hb dX6_deliver_48 (by decide) ?_
        refine roV CF (c_X6_of l D cI cC cW t _ _ _ _ _ (by first | (with_reducible first | assumption | exact m20 (by assumption) (by assumption) | exact ga20 (by assumption) (by assumption) | exact w2 (by assumption) | exact w2 (min4 (by assumption)) | exact w2 (s46 (by assumption)) | exact min4 (by assumption) | exact s46 (by assumption) | exact min11 (by assumption) (by assumption)) | (unfold vp_in; decide) | ((with_reducible (repeat (first | assumption | (refine sf_lays ?_ ?_ ?_; (with_reducible first | assumption | exact m20 (by assumption) (by assumption) | exact ga20 (by assumption) (by assumption)); (with_reducible first | exact v11_0 | exact v11_1 | exact v11_6 | exact v11_7 | exact v11_8 | exact v11_9 | exact v11_10 | exact w2 (by assumption) | exact w2 (min4 (by assumption)))) | (refine sf_adds ?_ ?_; (with_reducible first | exact v8_0 | exact v8_1 | exact v8_2 | exact v8_3 | exact v8_4 | exact v8_5 | exact v8_6 | exact v8_7)) | (refine sf_u (by omega) ?_)))); done)) (by first | (with_reducible first | assumption | exact m20 (by assumption) (by assumption) | exact ga20 (by assumption) (by assumption) | exact w2 (by assumption) | exact w2 (min4 (by assumption)) | exact w2 (s46 (by assumption)) | exact min4 (by assumption) | exact s46 (by assumption) | exact min11 (by assumption) (by assumption)) | (unfold vp_in; decide) | ((with_reducible (repeat (first | assumption | (refine sf_lays ?_ ?_ ?_; (with_reducible first | assumption | exact m20 (by assumption) (by assumption) | exact ga20 (by assumption) (by assumption)); (with_reducible first | exact v11_0 | exact v11_1 | exact v11_6 | exact v11_7 | exact v11_8 | exact v11_9 | exact v11_10 | exact w2 (by assumption) | exact w2 (min4 (by assumption)))) | (refine sf_adds ?_ ?_; (with_reducible first | exact v8_0 | exact v8_1 | exact v8_2 | exact v8_3 | exact v8_4 | exact v8_5 | exact v8_6 | exact v8_7)) | (refine sf_u (by omega) ?_)))); done))) (cwV 2 hts gX6_deliver_X6_of rfl rfl rfl (by decide +kernel) ⟨Nat.le_of_ble_eq_true rfl, Nat.le_of_ble_eq_true rfl⟩) hP hK hX hS 0 5 md_0 rfl rfl hl.1 rfl (Nat.le_of_ble_eq_true rfl) dX6_deliver_50 ⟨Nat.zero_le _, Nat.zero_le _⟩ ?_
        refine lv_iload_n hx hb dX6_deliver_53 rfl (lv_at hl 2 rfl) ?_
        refine lv_iadd hx hb dX6_deliver_54 ?_
        refine rwVv CF (c_X6_lays l D cI cC cW t _ _ _ _ _ _ _ (by first | (with_reducible first | assumption | exact m20 (by assumption) (by assumption) | exact ga20 (by assumption) (by assumption) | exact w2 (by assumption) | exact w2 (min4 (by assumption)) | exact w2 (s46 (by assumption)) | exact min4 (by assumption) | exact s46 (by assumption) | exact min11 (by assumption) (by assumption)) | (unfold vp_in; decide) | ((with_reducible (repeat (first | assumption | (refine sf_lays ?_ ?_ ?_; (with_reducible first | assumption | exact m20 (by assumption) (by assumption) | exact ga20 (by assumption) (by assumption)); (with_reducible first | exact v11_0 | exact v11_1 | exact v11_6 | exact v11_7 | exact v11_8 | exact v11_9 | exact v11_10 | exact w2 (by assumption) | exact w2 (min4 (by assumption)))) | (refine sf_adds ?_ ?_; (with_reducible first | exact v8_0 | exact v8_1 | exact v8_2 | exact v8_3 | exact v8_4 | exact v8_5 | exact v8_6 | exact v8_7)) | (refine sf_u (by omega) ?_)))); done)) (by first | (with_reducible first | assumption | exact m20 (by assumption) (by assumption) | exact ga20 (by assumption) (by assumption) | exact w2 (by assumption) | exact w2 (min4 (by assumption)) | exact w2 (s46 (by assumption)) | exact min4 (by assumption) | exact s46 (by assumption) | exact min11 (by assumption) (by assumption)) | (unfold vp_in; decide) | ((with_reducible (repeat (first | assumption | (refine sf_lays ?_ ?_ ?_; (with_reducible first | assumption | exact m20 (by assumption) (by assumption) | exact ga20 (by assumption) (by assumption)); (with_reducible first | exact v11_0 | exact v11_1 | exact v11_6 | exact v11_7 | exact v11_8 | exact v11_9 | exact v11_10 | exact w2 (by assumption) | exact w2 (min4 (by assumption)))) | (refine sf_adds ?_ ?_; (with_reducible first | exact v8_0 | exact v8_1 | exact v8_2 | exact v8_3 | exact v8_4 | exact v8_5 | exact v8_6 | exact v8_7)) | (refine sf_u (by omega) ?_)))); done))) (cwV 3 hts gX6_deliver_X6_lays rfl rfl rfl (by decide +kernel) ⟨Nat.le_of_ble_eq_true rfl, Nat.le_of_ble_eq_true rfl⟩) hP hD hK hX hS hA 0 5 md_0 rfl rfl hl.1 rfl (Nat.le_of_ble_eq_true rfl) dX6_deliver_55 ⟨Nat.zero_le _, Nat.zero_le _⟩ (fun H locs hP hD hS => ?_)
        refine lv_aload_n hx hb dX6_deliver_58 rfl (lv_at hl 0 rfl) ?_
        refine lv_iload_n hx hb dX6_deliver_59 rfl (lv_at hl 1 rfl) ?_
        refine lv_bipush (v := 8) hx hb dX6_deliver_60 (by decide) ?_
        refine roV CF (c_X6_of l D cI cC cW t _ _ _ _ _ (by first | (with_reducible first | assumption | exact m20 (by assumption) (by assumption) | exact ga20 (by assumption) (by assumption) | exact w2 (by assumption) | exact w2 (min4 (by assumption)) | exact w2 (s46 (by assumption)) | exact min4 (by assumption) | exact s46 (by assumption) | exact min11 (by assumption) (by assumption)) | (unfold vp_in; decide) | ((with_reducible (repeat (first | assumption | (refine sf_lays ?_ ?_ ?_; (with_reducible first | assumption | exact m20 (by assumption) (by assumption) | exact ga20 (by assumption) (by assumption)); (with_reducible first | exact v11_0 | exact v11_1 | exact v11_6 | exact v11_7 | exact v11_8 | exact v11_9 | exact v11_10 | exact w2 (by assumption) | exact w2 (min4 (by assumption)))) | (refine sf_adds ?_ ?_; (with_reducible first | exact v8_0 | exact v8_1 | exact v8_2 | exact v8_3 | exact v8_4 | exact v8_5 | exact v8_6 | exact v8_7)) | (refine sf_u (by omega) ?_)))); done)) (by first | (with_reducible first | assumption | exact m20 (by assumption) (by assumption) | exact ga20 (by assumption) (by assumption) | exact w2 (by assumption) | exact w2 (min4 (by assumption)) | exact w2 (s46 (by assumption)) | exact min4 (by assumption) | exact s46 (by assumption) | exact min11 (by assumption) (by assumption)) | (unfold vp_in; decide) | ((with_reducible (repeat (first | assumption | (refine sf_lays ?_ ?_ ?_; (with_reducible first | assumption | exact m20 (by assumption) (by assumption) | exact ga20 (by assumption) (by assumption)); (with_reducible first | exact v11_0 | exact v11_1 | exact v11_6 | exact v11_7 | exact v11_8 | exact v11_9 | exact v11_10 | exact w2 (by assumption) | exact w2 (min4 (by assumption)))) | (refine sf_adds ?_ ?_; (with_reducible first | exact v8_0 | exact v8_1 | exact v8_2 | exact v8_3 | exact v8_4 | exact v8_5 | exact v8_6 | exact v8_7)) | (refine sf_u (by omega) ?_)))); done))) (cwV 2 hts gX6_deliver_X6_of rfl rfl rfl (by decide +kernel) ⟨Nat.le_of_ble_eq_true rfl, Nat.le_of_ble_eq_true rfl⟩) hP hK hX hS 0 5 md_0 rfl rfl hl.1 rfl (Nat.le_of_ble_eq_true rfl) dX6_deliver_62 ⟨Nat.zero_le _, Nat.zero_le _⟩ ?_
        exact rwM_ret hx hb hr hP hD hS (Eq.trans (if_neg c5) (Eq.trans (if_neg c16) (Eq.trans (if_pos c32) (rfl)))) dX6_deliver_65 hlocks
      · refine lv_bipush (v := -3) hx hb dX6_deliver_35 (by decide) ?_
        exact rwM_ret hx hb hr hP hD hS (Eq.trans (if_neg c5) (Eq.trans (if_neg c16) (Eq.trans (if_neg c32) (rfl)))) dX6_deliver_37 hlocks
    · refine lv_iconst (v := -1) hx hb dX6_deliver_19 (by decide) ?_
      exact rwM_ret hx hb hr hP hD hS (Eq.trans (if_neg c5) (Eq.trans (if_pos c16) (rfl))) dX6_deliver_20 hlocks

def sp_X6_take (N : Nat → Int32) (Z : Nat → Nat → Int32) (x1 : Int32) : Int32 × ((Nat → Int32) × (Nat → Nat → Int32)) :=
  if (sp_X6_isGood N Z x1) = 0 then (((-1 : Int32), (N, Z))) else (if (sp_X6_of N Z x1 (6 : Int32)) = (-1 : Int32) then (((-2 : Int32), (N, Z))) else (let k25_1 : Nat → Nat → Int32 := sp_X6_records N Z; let k61_2 : Nat → Int32 := sp_X6_adds N k25_1 (5 : Int32) ((-(sp_X6_of N k25_1 x1 ((2 : Int32) + (sp_X6_season N k25_1)))) * (sp_X6_walk (sp_X6_of N k25_1 x1 (6 : Int32)))); let k77_3 : Nat → Int32 := sp_X6_lays k61_2 k25_1 x1 (8 : Int32) ((sp_X6_of k61_2 k25_1 x1 (8 : Int32)) + (sp_X6_of N k25_1 x1 (7 : Int32))); let k85_4 : Nat → Int32 := sp_X6_lays k77_3 k25_1 x1 (7 : Int32) (0 : Int32); let k93_5 : Nat → Int32 := sp_X6_lays k85_4 k25_1 x1 (6 : Int32) (-1 : Int32); ((sp_X6_of N k25_1 x1 (7 : Int32)), (k93_5, k25_1))))
set_option maxHeartbeats 4000000 in
set_option maxRecDepth 100000 in
theorem c_X6_take (l : Launch) (D : va_G) (cI cC cW : ClassId) (t : Nat → Nat) (a : Nat → Nat) (sz : Nat) (N : Nat → Int32) (Z : Nat → Nat → Int32) (x1 : Int32) (hsf : sfN N) (hps : psZ Z) : Met l yX6_take wsX6_take ({ frames := 2, cells := 0, slots := 0, locals := 45 }) (va_Pc [.ref (a 0), .int x1] (rwP D (tyL cI cC cW) (md cI a N Z) t sz)) (va_Qi (fun (r : Int32) (u : ((Nat → Int32) × (Nat → Nat → Int32))) => (r, u) = sp_X6_take N Z x1) (fun u => rwB D (va_A (md cI a N Z) sz) (md cI a u.1 u.2)) (va_A (md cI a N Z) sz)) 0 0 (va_A (md cI a N Z) sz) := by
  refine Met.ofW (cc := cX6_take) (maxL := 3) (ret := (some .int)) (by decide) rfl ?_
  intro p e s m args below meth c s₁ B hml hv
  obtain ⟨rfl, hsz, hP, hK, hD0, hX⟩ := hv
  have hx := B.exec
  have hb := B.bytes
  have hr := B.returns
  have hts := atoms_spec (ws := wsX6_take) B.pre
  have hown : s.vm.findClass RX6 = some m.cls := findClass_of_methodNamed B.named
  have hlocks := B.notSynchronized
  subst hsz
  have hD := hD0.self (sz := s.heap.size)
  generalize hAe : va_A (md cI a N Z) s.heap.size = A at hD hX ⊢
  have hA : ∀ q : Nat, s.heap.size ≤ q → A q := fun q h => by rw [← hAe]; exact Or.inr h
  have hS : va_S A s.heap s.heap [] := va_S.rf
  have CF : CallFix p m c cX6_take 3 s [.ref (a 0), .int x1].toArray wsX6_take RX6 := ⟨hx, hb, hml, hown, hts⟩
  have hl := lv_entry ([.ref (a 0), .int x1]) (n := 3) (Nat.le_of_ble_eq_true rfl)
  rw [lg_entry_eq]
  generalize (lg_sl ([.ref (a 0), .int x1]) ++ List.replicate (3 - (lg_sl ([.ref (a 0), .int x1])).length) Slot.unset).toArray = ls at hl ⊢
  have hl : lv_has ls 3 [(0, .ref (a 0)), (1, .int x1)] := hl
  refine lv_aload_n hx hb dX6_take_0 rfl (lv_at hl 0 rfl) ?_
  refine lv_iload_n hx hb dX6_take_1 rfl (lv_at hl 1 rfl) ?_
  refine roV CF (c_X6_isGood l D cI cC cW t _ _ _ _ ) (cwV 1 hts gX6_take_X6_isGood rfl rfl rfl (by decide +kernel) ⟨Nat.le_of_ble_eq_true rfl, Nat.le_of_ble_eq_true rfl⟩) hP hK hX hS 0 5 md_0 rfl rfl hl.1 rfl (Nat.le_of_ble_eq_true rfl) dX6_take_2 ⟨Nat.zero_le _, Nat.zero_le _⟩ ?_
  refine lv_if_ne (tgt := 10) hx hb dX6_take_5 (by decide) (fun c5 => ?_) (fun c5 => ?_)
  · refine lv_aload_n hx hb dX6_take_10 rfl (lv_at hl 0 rfl) ?_
    refine lv_iload_n hx hb dX6_take_11 rfl (lv_at hl 1 rfl) ?_
    refine lv_bipush (v := 6) hx hb dX6_take_12 (by decide) ?_
    refine roV CF (c_X6_of l D cI cC cW t _ _ _ _ _ (by first | (with_reducible first | assumption | exact m20 (by assumption) (by assumption) | exact ga20 (by assumption) (by assumption) | exact w2 (by assumption) | exact w2 (min4 (by assumption)) | exact w2 (s46 (by assumption)) | exact min4 (by assumption) | exact s46 (by assumption) | exact min11 (by assumption) (by assumption)) | (unfold vp_in; decide) | ((with_reducible (repeat (first | assumption | (refine sf_lays ?_ ?_ ?_; (with_reducible first | assumption | exact m20 (by assumption) (by assumption) | exact ga20 (by assumption) (by assumption)); (with_reducible first | exact v11_0 | exact v11_1 | exact v11_6 | exact v11_7 | exact v11_8 | exact v11_9 | exact v11_10 | exact w2 (by assumption) | exact w2 (min4 (by assumption)))) | (refine sf_adds ?_ ?_; (with_reducible first | exact v8_0 | exact v8_1 | exact v8_2 | exact v8_3 | exact v8_4 | exact v8_5 | exact v8_6 | exact v8_7)) | (refine sf_u (by omega) ?_)))); done)) (by first | (with_reducible first | assumption | exact m20 (by assumption) (by assumption) | exact ga20 (by assumption) (by assumption) | exact w2 (by assumption) | exact w2 (min4 (by assumption)) | exact w2 (s46 (by assumption)) | exact min4 (by assumption) | exact s46 (by assumption) | exact min11 (by assumption) (by assumption)) | (unfold vp_in; decide) | ((with_reducible (repeat (first | assumption | (refine sf_lays ?_ ?_ ?_; (with_reducible first | assumption | exact m20 (by assumption) (by assumption) | exact ga20 (by assumption) (by assumption)); (with_reducible first | exact v11_0 | exact v11_1 | exact v11_6 | exact v11_7 | exact v11_8 | exact v11_9 | exact v11_10 | exact w2 (by assumption) | exact w2 (min4 (by assumption)))) | (refine sf_adds ?_ ?_; (with_reducible first | exact v8_0 | exact v8_1 | exact v8_2 | exact v8_3 | exact v8_4 | exact v8_5 | exact v8_6 | exact v8_7)) | (refine sf_u (by omega) ?_)))); done))) (cwV 2 hts gX6_take_X6_of rfl rfl rfl (by decide +kernel) ⟨Nat.le_of_ble_eq_true rfl, Nat.le_of_ble_eq_true rfl⟩) hP hK hX hS 0 5 md_0 rfl rfl hl.1 rfl (Nat.le_of_ble_eq_true rfl) dX6_take_14 ⟨Nat.zero_le _, Nat.zero_le _⟩ ?_
    refine lv_iconst (v := -1) hx hb dX6_take_17 (by decide) ?_
    refine lv_icmp_ne (tgt := 24) hx hb dX6_take_18 (by decide) (fun c18 => ?_) (fun c18 => ?_)
    · refine lv_aload_n hx hb dX6_take_24 rfl (lv_at hl 0 rfl) ?_
      refine rwVv CF (c_X6_records l D cI cC cW t _ _ _ _  (by first | (with_reducible first | assumption | exact m20 (by assumption) (by assumption) | exact ga20 (by assumption) (by assumption) | exact w2 (by assumption) | exact w2 (min4 (by assumption)) | exact w2 (s46 (by assumption)) | exact min4 (by assumption) | exact s46 (by assumption) | exact min11 (by assumption) (by assumption)) | (unfold vp_in; decide) | ((with_reducible (repeat (first | assumption | (refine sf_lays ?_ ?_ ?_; (with_reducible first | assumption | exact m20 (by assumption) (by assumption) | exact ga20 (by assumption) (by assumption)); (with_reducible first | exact v11_0 | exact v11_1 | exact v11_6 | exact v11_7 | exact v11_8 | exact v11_9 | exact v11_10 | exact w2 (by assumption) | exact w2 (min4 (by assumption)))) | (refine sf_adds ?_ ?_; (with_reducible first | exact v8_0 | exact v8_1 | exact v8_2 | exact v8_3 | exact v8_4 | exact v8_5 | exact v8_6 | exact v8_7)) | (refine sf_u (by omega) ?_)))); done))) (cwV 0 hts gX6_take_X6_records rfl rfl rfl (by decide +kernel) ⟨Nat.le_of_ble_eq_true rfl, Nat.le_of_ble_eq_true rfl⟩) hP hD hK hX hS hA 0 5 md_0 rfl rfl hl.1 rfl (Nat.le_of_ble_eq_true rfl) dX6_take_25 ⟨Nat.zero_le _, Nat.zero_le _⟩ (fun H locs hP hD hS => ?_)
      refine lv_aload_n hx hb dX6_take_28 rfl (lv_at hl 0 rfl) ?_
      refine lv_iload_n hx hb dX6_take_29 rfl (lv_at hl 1 rfl) ?_
      refine lv_bipush (v := 7) hx hb dX6_take_30 (by decide) ?_
      refine roV CF (c_X6_of l D cI cC cW t _ _ _ _ _ (by first | (with_reducible first | assumption | exact m20 (by assumption) (by assumption) | exact ga20 (by assumption) (by assumption) | exact w2 (by assumption) | exact w2 (min4 (by assumption)) | exact w2 (s46 (by assumption)) | exact min4 (by assumption) | exact s46 (by assumption) | exact min11 (by assumption) (by assumption)) | (unfold vp_in; decide) | ((with_reducible (repeat (first | assumption | (refine sf_lays ?_ ?_ ?_; (with_reducible first | assumption | exact m20 (by assumption) (by assumption) | exact ga20 (by assumption) (by assumption)); (with_reducible first | exact v11_0 | exact v11_1 | exact v11_6 | exact v11_7 | exact v11_8 | exact v11_9 | exact v11_10 | exact w2 (by assumption) | exact w2 (min4 (by assumption)))) | (refine sf_adds ?_ ?_; (with_reducible first | exact v8_0 | exact v8_1 | exact v8_2 | exact v8_3 | exact v8_4 | exact v8_5 | exact v8_6 | exact v8_7)) | (refine sf_u (by omega) ?_)))); done)) (by first | (with_reducible first | assumption | exact m20 (by assumption) (by assumption) | exact ga20 (by assumption) (by assumption) | exact w2 (by assumption) | exact w2 (min4 (by assumption)) | exact w2 (s46 (by assumption)) | exact min4 (by assumption) | exact s46 (by assumption) | exact min11 (by assumption) (by assumption)) | (unfold vp_in; decide) | ((with_reducible (repeat (first | assumption | (refine sf_lays ?_ ?_ ?_; (with_reducible first | assumption | exact m20 (by assumption) (by assumption) | exact ga20 (by assumption) (by assumption)); (with_reducible first | exact v11_0 | exact v11_1 | exact v11_6 | exact v11_7 | exact v11_8 | exact v11_9 | exact v11_10 | exact w2 (by assumption) | exact w2 (min4 (by assumption)))) | (refine sf_adds ?_ ?_; (with_reducible first | exact v8_0 | exact v8_1 | exact v8_2 | exact v8_3 | exact v8_4 | exact v8_5 | exact v8_6 | exact v8_7)) | (refine sf_u (by omega) ?_)))); done))) (cwV 2 hts gX6_take_X6_of rfl rfl rfl (by decide +kernel) ⟨Nat.le_of_ble_eq_true rfl, Nat.le_of_ble_eq_true rfl⟩) hP hK hX hS 0 5 md_0 rfl rfl hl.1 rfl (Nat.le_of_ble_eq_true rfl) dX6_take_32 ⟨Nat.zero_le _, Nat.zero_le _⟩ ?_
      refine lv_istore_n (lv' := [(2, .int _), (0, .ref _), (1, .int _)]) hx hb dX6_take_35 rfl hl (by decide) rfl (fun ls hl => ?_)
      refine lv_aload_n hx hb dX6_take_36 rfl (lv_at hl 1 rfl) ?_
      refine lv_iconst (v := 5) hx hb dX6_take_37 (by decide) ?_
      refine lv_aload_n hx hb dX6_take_38 rfl (lv_at hl 1 rfl) ?_
      refine lv_iload_n hx hb dX6_take_39 rfl (lv_at hl 2 rfl) ?_
      refine lv_iconst (v := 2) hx hb dX6_take_40 (by decide) ?_
      refine lv_aload_n hx hb dX6_take_41 rfl (lv_at hl 1 rfl) ?_
      refine roV CF (c_X6_season l D cI cC cW t _ _ _  ) (cwV 0 hts gX6_take_X6_season rfl rfl rfl (by decide +kernel) ⟨Nat.le_of_ble_eq_true rfl, Nat.le_of_ble_eq_true rfl⟩) hP hK hX hS 0 5 md_0 rfl rfl hl.1 rfl (Nat.le_of_ble_eq_true rfl) dX6_take_42 ⟨Nat.zero_le _, Nat.zero_le _⟩ ?_
      refine lv_iadd hx hb dX6_take_45 ?_
      refine roV CF (c_X6_of l D cI cC cW t _ _ _ _ _ (by first | (with_reducible first | assumption | exact m20 (by assumption) (by assumption) | exact ga20 (by assumption) (by assumption) | exact w2 (by assumption) | exact w2 (min4 (by assumption)) | exact w2 (s46 (by assumption)) | exact min4 (by assumption) | exact s46 (by assumption) | exact min11 (by assumption) (by assumption)) | (unfold vp_in; decide) | ((with_reducible (repeat (first | assumption | (refine sf_lays ?_ ?_ ?_; (with_reducible first | assumption | exact m20 (by assumption) (by assumption) | exact ga20 (by assumption) (by assumption)); (with_reducible first | exact v11_0 | exact v11_1 | exact v11_6 | exact v11_7 | exact v11_8 | exact v11_9 | exact v11_10 | exact w2 (by assumption) | exact w2 (min4 (by assumption)))) | (refine sf_adds ?_ ?_; (with_reducible first | exact v8_0 | exact v8_1 | exact v8_2 | exact v8_3 | exact v8_4 | exact v8_5 | exact v8_6 | exact v8_7)) | (refine sf_u (by omega) ?_)))); done)) (by first | (with_reducible first | assumption | exact m20 (by assumption) (by assumption) | exact ga20 (by assumption) (by assumption) | exact w2 (by assumption) | exact w2 (min4 (by assumption)) | exact w2 (s46 (by assumption)) | exact min4 (by assumption) | exact s46 (by assumption) | exact min11 (by assumption) (by assumption)) | (unfold vp_in; decide) | ((with_reducible (repeat (first | assumption | (refine sf_lays ?_ ?_ ?_; (with_reducible first | assumption | exact m20 (by assumption) (by assumption) | exact ga20 (by assumption) (by assumption)); (with_reducible first | exact v11_0 | exact v11_1 | exact v11_6 | exact v11_7 | exact v11_8 | exact v11_9 | exact v11_10 | exact w2 (by assumption) | exact w2 (min4 (by assumption)))) | (refine sf_adds ?_ ?_; (with_reducible first | exact v8_0 | exact v8_1 | exact v8_2 | exact v8_3 | exact v8_4 | exact v8_5 | exact v8_6 | exact v8_7)) | (refine sf_u (by omega) ?_)))); done))) (cwV 2 hts gX6_take_X6_of rfl rfl rfl (by decide +kernel) ⟨Nat.le_of_ble_eq_true rfl, Nat.le_of_ble_eq_true rfl⟩) hP hK hX hS 0 5 md_0 rfl rfl hl.1 rfl (Nat.le_of_ble_eq_true rfl) dX6_take_46 ⟨Nat.zero_le _, Nat.zero_le _⟩ ?_
      refine lv_ineg hx hb dX6_take_49 ?_
      refine lv_aload_n hx hb dX6_take_50 rfl (lv_at hl 1 rfl) ?_
      refine lv_iload_n hx hb dX6_take_51 rfl (lv_at hl 2 rfl) ?_
      refine lv_bipush (v := 6) hx hb dX6_take_52 (by decide) ?_
      refine roV CF (c_X6_of l D cI cC cW t _ _ _ _ _ (by first | (with_reducible first | assumption | exact m20 (by assumption) (by assumption) | exact ga20 (by assumption) (by assumption) | exact w2 (by assumption) | exact w2 (min4 (by assumption)) | exact w2 (s46 (by assumption)) | exact min4 (by assumption) | exact s46 (by assumption) | exact min11 (by assumption) (by assumption)) | (unfold vp_in; decide) | ((with_reducible (repeat (first | assumption | (refine sf_lays ?_ ?_ ?_; (with_reducible first | assumption | exact m20 (by assumption) (by assumption) | exact ga20 (by assumption) (by assumption)); (with_reducible first | exact v11_0 | exact v11_1 | exact v11_6 | exact v11_7 | exact v11_8 | exact v11_9 | exact v11_10 | exact w2 (by assumption) | exact w2 (min4 (by assumption)))) | (refine sf_adds ?_ ?_; (with_reducible first | exact v8_0 | exact v8_1 | exact v8_2 | exact v8_3 | exact v8_4 | exact v8_5 | exact v8_6 | exact v8_7)) | (refine sf_u (by omega) ?_)))); done)) (by first | (with_reducible first | assumption | exact m20 (by assumption) (by assumption) | exact ga20 (by assumption) (by assumption) | exact w2 (by assumption) | exact w2 (min4 (by assumption)) | exact w2 (s46 (by assumption)) | exact min4 (by assumption) | exact s46 (by assumption) | exact min11 (by assumption) (by assumption)) | (unfold vp_in; decide) | ((with_reducible (repeat (first | assumption | (refine sf_lays ?_ ?_ ?_; (with_reducible first | assumption | exact m20 (by assumption) (by assumption) | exact ga20 (by assumption) (by assumption)); (with_reducible first | exact v11_0 | exact v11_1 | exact v11_6 | exact v11_7 | exact v11_8 | exact v11_9 | exact v11_10 | exact w2 (by assumption) | exact w2 (min4 (by assumption)))) | (refine sf_adds ?_ ?_; (with_reducible first | exact v8_0 | exact v8_1 | exact v8_2 | exact v8_3 | exact v8_4 | exact v8_5 | exact v8_6 | exact v8_7)) | (refine sf_u (by omega) ?_)))); done))) (cwV 2 hts gX6_take_X6_of rfl rfl rfl (by decide +kernel) ⟨Nat.le_of_ble_eq_true rfl, Nat.le_of_ble_eq_true rfl⟩) hP hK hX hS 0 5 md_0 rfl rfl hl.1 rfl (Nat.le_of_ble_eq_true rfl) dX6_take_54 ⟨Nat.zero_le _, Nat.zero_le _⟩ ?_
      refine roS CF (c_X6_walk l D cI cC cW t _ ) (va_cwS 1 hts gX6_take_X6_walk rfl rfl rfl (by decide +kernel) ⟨Nat.le_of_ble_eq_true rfl, Nat.le_of_ble_eq_true rfl⟩) vP_nil hK hX hS rfl hl.1 rfl (Nat.le_of_ble_eq_true rfl) dX6_take_57 ⟨Nat.zero_le _, Nat.zero_le _⟩ ?_
      refine lv_imul hx hb dX6_take_60 ?_
      refine rwVv CF (c_X6_adds l D cI cC cW t _ _ _ _ _ _ (by first | (with_reducible first | assumption | exact m20 (by assumption) (by assumption) | exact ga20 (by assumption) (by assumption) | exact w2 (by assumption) | exact w2 (min4 (by assumption)) | exact w2 (s46 (by assumption)) | exact min4 (by assumption) | exact s46 (by assumption) | exact min11 (by assumption) (by assumption)) | (unfold vp_in; decide) | ((with_reducible (repeat (first | assumption | (refine sf_lays ?_ ?_ ?_; (with_reducible first | assumption | exact m20 (by assumption) (by assumption) | exact ga20 (by assumption) (by assumption)); (with_reducible first | exact v11_0 | exact v11_1 | exact v11_6 | exact v11_7 | exact v11_8 | exact v11_9 | exact v11_10 | exact w2 (by assumption) | exact w2 (min4 (by assumption)))) | (refine sf_adds ?_ ?_; (with_reducible first | exact v8_0 | exact v8_1 | exact v8_2 | exact v8_3 | exact v8_4 | exact v8_5 | exact v8_6 | exact v8_7)) | (refine sf_u (by omega) ?_)))); done))) (cwV 2 hts gX6_take_X6_adds rfl rfl rfl (by decide +kernel) ⟨Nat.le_of_ble_eq_true rfl, Nat.le_of_ble_eq_true rfl⟩) hP hD hK hX hS hA 0 5 md_0 rfl rfl hl.1 rfl (Nat.le_of_ble_eq_true rfl) dX6_take_61 ⟨Nat.zero_le _, Nat.zero_le _⟩ (fun H locs hP hD hS => ?_)
      refine lv_aload_n hx hb dX6_take_64 rfl (lv_at hl 1 rfl) ?_
      refine lv_iload_n hx hb dX6_take_65 rfl (lv_at hl 2 rfl) ?_
      refine lv_bipush (v := 8) hx hb dX6_take_66 (by decide) ?_
      refine lv_aload_n hx hb dX6_take_68 rfl (lv_at hl 1 rfl) ?_
      refine lv_iload_n hx hb dX6_take_69 rfl (lv_at hl 2 rfl) ?_
      refine lv_bipush (v := 8) hx hb dX6_take_70 (by decide) ?_
      refine roV CF (c_X6_of l D cI cC cW t _ _ _ _ _ (by first | (with_reducible first | assumption | exact m20 (by assumption) (by assumption) | exact ga20 (by assumption) (by assumption) | exact w2 (by assumption) | exact w2 (min4 (by assumption)) | exact w2 (s46 (by assumption)) | exact min4 (by assumption) | exact s46 (by assumption) | exact min11 (by assumption) (by assumption)) | (unfold vp_in; decide) | ((with_reducible (repeat (first | assumption | (refine sf_lays ?_ ?_ ?_; (with_reducible first | assumption | exact m20 (by assumption) (by assumption) | exact ga20 (by assumption) (by assumption)); (with_reducible first | exact v11_0 | exact v11_1 | exact v11_6 | exact v11_7 | exact v11_8 | exact v11_9 | exact v11_10 | exact w2 (by assumption) | exact w2 (min4 (by assumption)))) | (refine sf_adds ?_ ?_; (with_reducible first | exact v8_0 | exact v8_1 | exact v8_2 | exact v8_3 | exact v8_4 | exact v8_5 | exact v8_6 | exact v8_7)) | (refine sf_u (by omega) ?_)))); done)) (by first | (with_reducible first | assumption | exact m20 (by assumption) (by assumption) | exact ga20 (by assumption) (by assumption) | exact w2 (by assumption) | exact w2 (min4 (by assumption)) | exact w2 (s46 (by assumption)) | exact min4 (by assumption) | exact s46 (by assumption) | exact min11 (by assumption) (by assumption)) | (unfold vp_in; decide) | ((with_reducible (repeat (first | assumption | (refine sf_lays ?_ ?_ ?_; (with_reducible first | assumption | exact m20 (by assumption) (by assumption) | exact ga20 (by assumption) (by assumption)); (with_reducible first | exact v11_0 | exact v11_1 | exact v11_6 | exact v11_7 | exact v11_8 | exact v11_9 | exact v11_10 | exact w2 (by assumption) | exact w2 (min4 (by assumption)))) | (refine sf_adds ?_ ?_; (with_reducible first | exact v8_0 | exact v8_1 | exact v8_2 | exact v8_3 | exact v8_4 | exact v8_5 | exact v8_6 | exact v8_7)) | (refine sf_u (by omega) ?_)))); done))) (cwV 2 hts gX6_take_X6_of rfl rfl rfl (by decide +kernel) ⟨Nat.le_of_ble_eq_true rfl, Nat.le_of_ble_eq_true rfl⟩) hP hK hX hS 0 5 md_0 rfl rfl hl.1 rfl (Nat.le_of_ble_eq_true rfl) dX6_take_72 ⟨Nat.zero_le _, Nat.zero_le _⟩ ?_
      refine lv_iload_n hx hb dX6_take_75 rfl (lv_at hl 0 rfl) ?_
      refine lv_iadd hx hb dX6_take_76 ?_
      refine rwVv CF (c_X6_lays l D cI cC cW t _ _ _ _ _ _ _ (by first | (with_reducible first | assumption | exact m20 (by assumption) (by assumption) | exact ga20 (by assumption) (by assumption) | exact w2 (by assumption) | exact w2 (min4 (by assumption)) | exact w2 (s46 (by assumption)) | exact min4 (by assumption) | exact s46 (by assumption) | exact min11 (by assumption) (by assumption)) | (unfold vp_in; decide) | ((with_reducible (repeat (first | assumption | (refine sf_lays ?_ ?_ ?_; (with_reducible first | assumption | exact m20 (by assumption) (by assumption) | exact ga20 (by assumption) (by assumption)); (with_reducible first | exact v11_0 | exact v11_1 | exact v11_6 | exact v11_7 | exact v11_8 | exact v11_9 | exact v11_10 | exact w2 (by assumption) | exact w2 (min4 (by assumption)))) | (refine sf_adds ?_ ?_; (with_reducible first | exact v8_0 | exact v8_1 | exact v8_2 | exact v8_3 | exact v8_4 | exact v8_5 | exact v8_6 | exact v8_7)) | (refine sf_u (by omega) ?_)))); done)) (by first | (with_reducible first | assumption | exact m20 (by assumption) (by assumption) | exact ga20 (by assumption) (by assumption) | exact w2 (by assumption) | exact w2 (min4 (by assumption)) | exact w2 (s46 (by assumption)) | exact min4 (by assumption) | exact s46 (by assumption) | exact min11 (by assumption) (by assumption)) | (unfold vp_in; decide) | ((with_reducible (repeat (first | assumption | (refine sf_lays ?_ ?_ ?_; (with_reducible first | assumption | exact m20 (by assumption) (by assumption) | exact ga20 (by assumption) (by assumption)); (with_reducible first | exact v11_0 | exact v11_1 | exact v11_6 | exact v11_7 | exact v11_8 | exact v11_9 | exact v11_10 | exact w2 (by assumption) | exact w2 (min4 (by assumption)))) | (refine sf_adds ?_ ?_; (with_reducible first | exact v8_0 | exact v8_1 | exact v8_2 | exact v8_3 | exact v8_4 | exact v8_5 | exact v8_6 | exact v8_7)) | (refine sf_u (by omega) ?_)))); done))) (cwV 3 hts gX6_take_X6_lays rfl rfl rfl (by decide +kernel) ⟨Nat.le_of_ble_eq_true rfl, Nat.le_of_ble_eq_true rfl⟩) hP hD hK hX hS hA 0 5 md_0 rfl rfl hl.1 rfl (Nat.le_of_ble_eq_true rfl) dX6_take_77 ⟨Nat.zero_le _, Nat.zero_le _⟩ (fun H locs hP hD hS => ?_)
      refine lv_aload_n hx hb dX6_take_80 rfl (lv_at hl 1 rfl) ?_
      refine lv_iload_n hx hb dX6_take_81 rfl (lv_at hl 2 rfl) ?_
      refine lv_bipush (v := 7) hx hb dX6_take_82 (by decide) ?_
      refine lv_iconst (v := 0) hx hb dX6_take_84 (by decide) ?_
      refine rwVv CF (c_X6_lays l D cI cC cW t _ _ _ _ _ _ _ (by first | (with_reducible first | assumption | exact m20 (by assumption) (by assumption) | exact ga20 (by assumption) (by assumption) | exact w2 (by assumption) | exact w2 (min4 (by assumption)) | exact w2 (s46 (by assumption)) | exact min4 (by assumption) | exact s46 (by assumption) | exact min11 (by assumption) (by assumption)) | (unfold vp_in; decide) | ((with_reducible (repeat (first | assumption | (refine sf_lays ?_ ?_ ?_; (with_reducible first | assumption | exact m20 (by assumption) (by assumption) | exact ga20 (by assumption) (by assumption)); (with_reducible first | exact v11_0 | exact v11_1 | exact v11_6 | exact v11_7 | exact v11_8 | exact v11_9 | exact v11_10 | exact w2 (by assumption) | exact w2 (min4 (by assumption)))) | (refine sf_adds ?_ ?_; (with_reducible first | exact v8_0 | exact v8_1 | exact v8_2 | exact v8_3 | exact v8_4 | exact v8_5 | exact v8_6 | exact v8_7)) | (refine sf_u (by omega) ?_)))); done)) (by first | (with_reducible first | assumption | exact m20 (by assumption) (by assumption) | exact ga20 (by assumption) (by assumption) | exact w2 (by assumption) | exact w2 (min4 (by assumption)) | exact w2 (s46 (by assumption)) | exact min4 (by assumption) | exact s46 (by assumption) | exact min11 (by assumption) (by assumption)) | (unfold vp_in; decide) | ((with_reducible (repeat (first | assumption | (refine sf_lays ?_ ?_ ?_; (with_reducible first | assumption | exact m20 (by assumption) (by assumption) | exact ga20 (by assumption) (by assumption)); (with_reducible first | exact v11_0 | exact v11_1 | exact v11_6 | exact v11_7 | exact v11_8 | exact v11_9 | exact v11_10 | exact w2 (by assumption) | exact w2 (min4 (by assumption)))) | (refine sf_adds ?_ ?_; (with_reducible first | exact v8_0 | exact v8_1 | exact v8_2 | exact v8_3 | exact v8_4 | exact v8_5 | exact v8_6 | exact v8_7)) | (refine sf_u (by omega) ?_)))); done))) (cwV 3 hts gX6_take_X6_lays rfl rfl rfl (by decide +kernel) ⟨Nat.le_of_ble_eq_true rfl, Nat.le_of_ble_eq_true rfl⟩) hP hD hK hX hS hA 0 5 md_0 rfl rfl hl.1 rfl (Nat.le_of_ble_eq_true rfl) dX6_take_85 ⟨Nat.zero_le _, Nat.zero_le _⟩ (fun H locs hP hD hS => ?_)
      refine lv_aload_n hx hb dX6_take_88 rfl (lv_at hl 1 rfl) ?_
      refine lv_iload_n hx hb dX6_take_89 rfl (lv_at hl 2 rfl) ?_
      refine lv_bipush (v := 6) hx hb dX6_take_90 (by decide) ?_
      refine lv_iconst (v := -1) hx hb dX6_take_92 (by decide) ?_
      refine rwVv CF (c_X6_lays l D cI cC cW t _ _ _ _ _ _ _ (by first | (with_reducible first | assumption | exact m20 (by assumption) (by assumption) | exact ga20 (by assumption) (by assumption) | exact w2 (by assumption) | exact w2 (min4 (by assumption)) | exact w2 (s46 (by assumption)) | exact min4 (by assumption) | exact s46 (by assumption) | exact min11 (by assumption) (by assumption)) | (unfold vp_in; decide) | ((with_reducible (repeat (first | assumption | (refine sf_lays ?_ ?_ ?_; (with_reducible first | assumption | exact m20 (by assumption) (by assumption) | exact ga20 (by assumption) (by assumption)); (with_reducible first | exact v11_0 | exact v11_1 | exact v11_6 | exact v11_7 | exact v11_8 | exact v11_9 | exact v11_10 | exact w2 (by assumption) | exact w2 (min4 (by assumption)))) | (refine sf_adds ?_ ?_; (with_reducible first | exact v8_0 | exact v8_1 | exact v8_2 | exact v8_3 | exact v8_4 | exact v8_5 | exact v8_6 | exact v8_7)) | (refine sf_u (by omega) ?_)))); done)) (by first | (with_reducible first | assumption | exact m20 (by assumption) (by assumption) | exact ga20 (by assumption) (by assumption) | exact w2 (by assumption) | exact w2 (min4 (by assumption)) | exact w2 (s46 (by assumption)) | exact min4 (by assumption) | exact s46 (by assumption) | exact min11 (by assumption) (by assumption)) | (unfold vp_in; decide) | ((with_reducible (repeat (first | assumption | (refine sf_lays ?_ ?_ ?_; (with_reducible first | assumption | exact m20 (by assumption) (by assumption) | exact ga20 (by assumption) (by assumption)); (with_reducible first | exact v11_0 | exact v11_1 | exact v11_6 | exact v11_7 | exact v11_8 | exact v11_9 | exact v11_10 | exact w2 (by assumption) | exact w2 (min4 (by assumption)))) | (refine sf_adds ?_ ?_; (with_reducible first | exact v8_0 | exact v8_1 | exact v8_2 | exact v8_3 | exact v8_4 | exact v8_5 | exact v8_6 | exact v8_7)) | (refine sf_u (by omega) ?_)))); done))) (cwV 3 hts gX6_take_X6_lays rfl rfl rfl (by decide +kernel) ⟨Nat.le_of_ble_eq_true rfl, Nat.le_of_ble_eq_true rfl⟩) hP hD hK hX hS hA 0 5 md_0 rfl rfl hl.1 rfl (Nat.le_of_ble_eq_true rfl) dX6_take_93 ⟨Nat.zero_le _, Nat.zero_le _⟩ (fun H locs hP hD hS => ?_)
      refine lv_iload_n hx hb dX6_take_96 rfl (lv_at hl 0 rfl) ?_
      exact rwM_ret hx hb hr hP hD hS (Eq.trans (if_neg c5) (Eq.trans (if_neg c18) (rfl))) dX6_take_97 hlocks
    · refine lv_bipush (v := -2) hx hb dX6_take_21 (by decide) ?_
      exact rwM_ret hx hb hr hP hD hS (Eq.trans (if_neg c5) (Eq.trans (if_pos c18) (rfl))) dX6_take_23 hlocks
  · refine lv_iconst (v := -1) hx hb dX6_take_8 (by decide) ?_
    exact rwM_ret hx hb hr hP hD hS (Eq.trans (if_pos c5) (rfl)) dX6_take_9 hlocks

def sp_X6_demand (N : Nat → Int32) (Z : Nat → Nat → Int32) (x1 x2 x3 : Int32) : Int32 × ((Nat → Int32) × (Nat → Nat → Int32)) :=
  if (sp_X6_isGood N Z x1) = 0 then (((-1 : Int32), (N, Z))) else (if (sp_X6_in x2 (0 : Int32) (3 : Int32)) = 0 then (((-1 : Int32), (N, Z))) else (if (sp_X6_in x3 (0 : Int32) (999 : Int32)) = 0 then (((-1 : Int32), (N, Z))) else (let k31_1 : Nat → Nat → Int32 := sp_X6_records N Z; let k60_2 : Nat → Int32 := sp_X6_lays N k31_1 x1 ((2 : Int32) + x2) x3; let k76_3 : Nat → Int32 := sp_X6_adds k60_2 k31_1 (5 : Int32) ((sp_X6_weeklyOf k60_2 k31_1 (sp_X6_season k60_2 k31_1)) - (sp_X6_weeklyOf N k31_1 (sp_X6_season N k31_1))); ((sp_X6_of N k31_1 x1 ((2 : Int32) + x2)), (k76_3, k31_1)))))
set_option maxHeartbeats 4000000 in
set_option maxRecDepth 100000 in
theorem c_X6_demand (l : Launch) (D : va_G) (cI cC cW : ClassId) (t : Nat → Nat) (a : Nat → Nat) (sz : Nat) (N : Nat → Int32) (Z : Nat → Nat → Int32) (x1 x2 x3 : Int32) (hsf : sfN N) (hps : psZ Z) : Met l yX6_demand wsX6_demand ({ frames := 3, cells := 0, slots := 0, locals := 64 }) (va_Pc [.ref (a 0), .int x1, .int x2, .int x3] (rwP D (tyL cI cC cW) (md cI a N Z) t sz)) (va_Qi (fun (r : Int32) (u : ((Nat → Int32) × (Nat → Nat → Int32))) => (r, u) = sp_X6_demand N Z x1 x2 x3) (fun u => rwB D (va_A (md cI a N Z) sz) (md cI a u.1 u.2)) (va_A (md cI a N Z) sz)) 0 0 (va_A (md cI a N Z) sz) := by
  refine Met.ofW (cc := cX6_demand) (maxL := 6) (ret := (some .int)) (by decide) rfl ?_
  intro p e s m args below meth c s₁ B hml hv
  obtain ⟨rfl, hsz, hP, hK, hD0, hX⟩ := hv
  have hx := B.exec
  have hb := B.bytes
  have hr := B.returns
  have hts := atoms_spec (ws := wsX6_demand) B.pre
  have hown : s.vm.findClass RX6 = some m.cls := findClass_of_methodNamed B.named
  have hlocks := B.notSynchronized
  subst hsz
  have hD := hD0.self (sz := s.heap.size)
  generalize hAe : va_A (md cI a N Z) s.heap.size = A at hD hX ⊢
  have hA : ∀ q : Nat, s.heap.size ≤ q → A q := fun q h => by rw [← hAe]; exact Or.inr h
  have hS : va_S A s.heap s.heap [] := va_S.rf
  have CF : CallFix p m c cX6_demand 6 s [.ref (a 0), .int x1, .int x2, .int x3].toArray wsX6_demand RX6 := ⟨hx, hb, hml, hown, hts⟩
  have hl := lv_entry ([.ref (a 0), .int x1, .int x2, .int x3]) (n := 6) (Nat.le_of_ble_eq_true rfl)
  rw [lg_entry_eq]
  generalize (lg_sl ([.ref (a 0), .int x1, .int x2, .int x3]) ++ List.replicate (6 - (lg_sl ([.ref (a 0), .int x1, .int x2, .int x3])).length) Slot.unset).toArray = ls at hl ⊢
  have hl : lv_has ls 6 [(0, .ref (a 0)), (1, .int x1), (2, .int x2), (3, .int x3)] := hl
  refine lv_aload_n hx hb dX6_demand_0 rfl (lv_at hl 0 rfl) ?_
  refine lv_iload_n hx hb dX6_demand_1 rfl (lv_at hl 1 rfl) ?_
  refine roV CF (c_X6_isGood l D cI cC cW t _ _ _ _ ) (cwV 1 hts gX6_demand_X6_isGood rfl rfl rfl (by decide +kernel) ⟨Nat.le_of_ble_eq_true rfl, Nat.le_of_ble_eq_true rfl⟩) hP hK hX hS 0 5 md_0 rfl rfl hl.1 rfl (Nat.le_of_ble_eq_true rfl) dX6_demand_2 ⟨Nat.zero_le _, Nat.zero_le _⟩ ?_
  refine lv_if_eq (tgt := 28) hx hb dX6_demand_5 (by decide) (fun c5 => ?_) (fun c5 => ?_)
  · refine lv_iconst (v := -1) hx hb dX6_demand_28 (by decide) ?_
    exact rwM_ret hx hb hr hP hD hS (Eq.trans (if_pos c5) (rfl)) dX6_demand_29 hlocks
  · refine lv_iload_n hx hb dX6_demand_8 rfl (lv_at hl 2 rfl) ?_
    refine lv_iconst (v := 0) hx hb dX6_demand_9 (by decide) ?_
    refine lv_iconst (v := 3) hx hb dX6_demand_10 (by decide) ?_
    refine roS CF (c_X6_in l D cI cC cW t _ _ _ ) (va_cwS 3 hts gX6_demand_X6_in rfl rfl rfl (by decide +kernel) ⟨Nat.le_of_ble_eq_true rfl, Nat.le_of_ble_eq_true rfl⟩) vP_nil hK hX hS rfl hl.1 rfl (Nat.le_of_ble_eq_true rfl) dX6_demand_11 ⟨Nat.zero_le _, Nat.zero_le _⟩ ?_
    refine lv_if_eq (tgt := 28) hx hb dX6_demand_14 (by decide) (fun c14 => ?_) (fun c14 => ?_)
    · refine lv_iconst (v := -1) hx hb dX6_demand_28 (by decide) ?_
      exact rwM_ret hx hb hr hP hD hS (Eq.trans (if_neg c5) (Eq.trans (if_pos c14) (rfl))) dX6_demand_29 hlocks
    · refine lv_iload_n hx hb dX6_demand_17 rfl (lv_at hl 3 rfl) ?_
      refine lv_iconst (v := 0) hx hb dX6_demand_18 (by decide) ?_
      refine lv_sipush (v := 999) hx hb dX6_demand_19 (by decide) ?_
      refine roS CF (c_X6_in l D cI cC cW t _ _ _ ) (va_cwS 3 hts gX6_demand_X6_in rfl rfl rfl (by decide +kernel) ⟨Nat.le_of_ble_eq_true rfl, Nat.le_of_ble_eq_true rfl⟩) vP_nil hK hX hS rfl hl.1 rfl (Nat.le_of_ble_eq_true rfl) dX6_demand_22 ⟨Nat.zero_le _, Nat.zero_le _⟩ ?_
      refine lv_if_ne (tgt := 30) hx hb dX6_demand_25 (by decide) (fun c25 => ?_) (fun c25 => ?_)
      · refine lv_aload_n hx hb dX6_demand_30 rfl (lv_at hl 0 rfl) ?_
        refine rwVv CF (c_X6_records l D cI cC cW t _ _ _ _  (by first | (with_reducible first | assumption | exact m20 (by assumption) (by assumption) | exact ga20 (by assumption) (by assumption) | exact w2 (by assumption) | exact w2 (min4 (by assumption)) | exact w2 (s46 (by assumption)) | exact min4 (by assumption) | exact s46 (by assumption) | exact min11 (by assumption) (by assumption)) | (unfold vp_in; decide) | ((with_reducible (repeat (first | assumption | (refine sf_lays ?_ ?_ ?_; (with_reducible first | assumption | exact m20 (by assumption) (by assumption) | exact ga20 (by assumption) (by assumption)); (with_reducible first | exact v11_0 | exact v11_1 | exact v11_6 | exact v11_7 | exact v11_8 | exact v11_9 | exact v11_10 | exact w2 (by assumption) | exact w2 (min4 (by assumption)))) | (refine sf_adds ?_ ?_; (with_reducible first | exact v8_0 | exact v8_1 | exact v8_2 | exact v8_3 | exact v8_4 | exact v8_5 | exact v8_6 | exact v8_7)) | (refine sf_u (by omega) ?_)))); done))) (cwV 0 hts gX6_demand_X6_records rfl rfl rfl (by decide +kernel) ⟨Nat.le_of_ble_eq_true rfl, Nat.le_of_ble_eq_true rfl⟩) hP hD hK hX hS hA 0 5 md_0 rfl rfl hl.1 rfl (Nat.le_of_ble_eq_true rfl) dX6_demand_31 ⟨Nat.zero_le _, Nat.zero_le _⟩ (fun H locs hP hD hS => ?_)
        refine lv_aload_n hx hb dX6_demand_34 rfl (lv_at hl 0 rfl) ?_
        refine lv_iload_n hx hb dX6_demand_35 rfl (lv_at hl 1 rfl) ?_
        refine lv_iconst (v := 2) hx hb dX6_demand_36 (by decide) ?_
        refine lv_iload_n hx hb dX6_demand_37 rfl (lv_at hl 2 rfl) ?_
        refine lv_iadd hx hb dX6_demand_38 ?_
        refine roV CF (c_X6_of l D cI cC cW t _ _ _ _ _ (by first | (with_reducible first | assumption | exact m20 (by assumption) (by assumption) | exact ga20 (by assumption) (by assumption) | exact w2 (by assumption) | exact w2 (min4 (by assumption)) | exact w2 (s46 (by assumption)) | exact min4 (by assumption) | exact s46 (by assumption) | exact min11 (by assumption) (by assumption)) | (unfold vp_in; decide) | ((with_reducible (repeat (first | assumption | (refine sf_lays ?_ ?_ ?_; (with_reducible first | assumption | exact m20 (by assumption) (by assumption) | exact ga20 (by assumption) (by assumption)); (with_reducible first | exact v11_0 | exact v11_1 | exact v11_6 | exact v11_7 | exact v11_8 | exact v11_9 | exact v11_10 | exact w2 (by assumption) | exact w2 (min4 (by assumption)))) | (refine sf_adds ?_ ?_; (with_reducible first | exact v8_0 | exact v8_1 | exact v8_2 | exact v8_3 | exact v8_4 | exact v8_5 | exact v8_6 | exact v8_7)) | (refine sf_u (by omega) ?_)))); done)) (by first | (with_reducible first | assumption | exact m20 (by assumption) (by assumption) | exact ga20 (by assumption) (by assumption) | exact w2 (by assumption) | exact w2 (min4 (by assumption)) | exact w2 (s46 (by assumption)) | exact min4 (by assumption) | exact s46 (by assumption) | exact min11 (by assumption) (by assumption)) | (unfold vp_in; decide) | ((with_reducible (repeat (first | assumption | (refine sf_lays ?_ ?_ ?_; (with_reducible first | assumption | exact m20 (by assumption) (by assumption) | exact ga20 (by assumption) (by assumption)); (with_reducible first | exact v11_0 | exact v11_1 | exact v11_6 | exact v11_7 | exact v11_8 | exact v11_9 | exact v11_10 | exact w2 (by assumption) | exact w2 (min4 (by assumption)))) | (refine sf_adds ?_ ?_; (with_reducible first | exact v8_0 | exact v8_1 | exact v8_2 | exact v8_3 | exact v8_4 | exact v8_5 | exact v8_6 | exact v8_7)) | (refine sf_u (by omega) ?_)))); done))) (cwV 2 hts gX6_demand_X6_of rfl rfl rfl (by decide +kernel) ⟨Nat.le_of_ble_eq_true rfl, Nat.le_of_ble_eq_true rfl⟩) hP hK hX hS 0 5 md_0 rfl rfl hl.1 rfl (Nat.le_of_ble_eq_true rfl) dX6_demand_39 ⟨Nat.zero_le _, Nat.zero_le _⟩ ?_
        refine lv_istore (lv' := [(4, .int _), (0, .ref _), (1, .int _), (2, .int _), (3, .int _)]) hx hb dX6_demand_42 hl (by decide) rfl (fun ls hl => ?_)
        refine lv_aload_n hx hb dX6_demand_44 rfl (lv_at hl 1 rfl) ?_
        refine lv_aload_n hx hb dX6_demand_45 rfl (lv_at hl 1 rfl) ?_
        refine roV CF (c_X6_season l D cI cC cW t _ _ _  ) (cwV 0 hts gX6_demand_X6_season rfl rfl rfl (by decide +kernel) ⟨Nat.le_of_ble_eq_true rfl, Nat.le_of_ble_eq_true rfl⟩) hP hK hX hS 0 5 md_0 rfl rfl hl.1 rfl (Nat.le_of_ble_eq_true rfl) dX6_demand_46 ⟨Nat.zero_le _, Nat.zero_le _⟩ ?_
        refine roV CF (c_X6_weeklyOf l D cI cC cW t _ _ _ _ (by first | (with_reducible first | assumption | exact m20 (by assumption) (by assumption) | exact ga20 (by assumption) (by assumption) | exact w2 (by assumption) | exact w2 (min4 (by assumption)) | exact w2 (s46 (by assumption)) | exact min4 (by assumption) | exact s46 (by assumption) | exact min11 (by assumption) (by assumption)) | (unfold vp_in; decide) | ((with_reducible (repeat (first | assumption | (refine sf_lays ?_ ?_ ?_; (with_reducible first | assumption | exact m20 (by assumption) (by assumption) | exact ga20 (by assumption) (by assumption)); (with_reducible first | exact v11_0 | exact v11_1 | exact v11_6 | exact v11_7 | exact v11_8 | exact v11_9 | exact v11_10 | exact w2 (by assumption) | exact w2 (min4 (by assumption)))) | (refine sf_adds ?_ ?_; (with_reducible first | exact v8_0 | exact v8_1 | exact v8_2 | exact v8_3 | exact v8_4 | exact v8_5 | exact v8_6 | exact v8_7)) | (refine sf_u (by omega) ?_)))); done)) (by first | (with_reducible first | assumption | exact m20 (by assumption) (by assumption) | exact ga20 (by assumption) (by assumption) | exact w2 (by assumption) | exact w2 (min4 (by assumption)) | exact w2 (s46 (by assumption)) | exact min4 (by assumption) | exact s46 (by assumption) | exact min11 (by assumption) (by assumption)) | (unfold vp_in; decide) | ((with_reducible (repeat (first | assumption | (refine sf_lays ?_ ?_ ?_; (with_reducible first | assumption | exact m20 (by assumption) (by assumption) | exact ga20 (by assumption) (by assumption)); (with_reducible first | exact v11_0 | exact v11_1 | exact v11_6 | exact v11_7 | exact v11_8 | exact v11_9 | exact v11_10 | exact w2 (by assumption) | exact w2 (min4 (by assumption)))) | (refine sf_adds ?_ ?_; (with_reducible first | exact v8_0 | exact v8_1 | exact v8_2 | exact v8_3 | exact v8_4 | exact v8_5 | exact v8_6 | exact v8_7)) | (refine sf_u (by omega) ?_)))); done))) (cwV 1 hts gX6_demand_X6_weeklyOf rfl rfl rfl (by decide +kernel) ⟨Nat.le_of_ble_eq_true rfl, Nat.le_of_ble_eq_true rfl⟩) hP hK hX hS 0 5 md_0 rfl rfl hl.1 rfl (Nat.le_of_ble_eq_true rfl) dX6_demand_49 ⟨Nat.zero_le _, Nat.zero_le _⟩ ?_
        refine lv_istore (lv' := [(5, .int _), (4, .int _), (0, .ref _), (1, .int _), (2, .int _), (3, .int _)]) hx hb dX6_demand_52 hl (by decide) rfl (fun ls hl => ?_)
        refine lv_aload_n hx hb dX6_demand_54 rfl (lv_at hl 2 rfl) ?_
        refine lv_iload_n hx hb dX6_demand_55 rfl (lv_at hl 3 rfl) ?_
        refine lv_iconst (v := 2) hx hb dX6_demand_56 (by decide) ?_
        refine lv_iload_n hx hb dX6_demand_57 rfl (lv_at hl 4 rfl) ?_
        refine lv_iadd hx hb dX6_demand_58 ?_
        refine lv_iload_n hx hb dX6_demand_59 rfl (lv_at hl 5 rfl) ?_
        refine rwVv CF (c_X6_lays l D cI cC cW t _ _ _ _ _ _ _ (by first | (with_reducible first | assumption | exact m20 (by assumption) (by assumption) | exact ga20 (by assumption) (by assumption) | exact w2 (by assumption) | exact w2 (min4 (by assumption)) | exact w2 (s46 (by assumption)) | exact min4 (by assumption) | exact s46 (by assumption) | exact min11 (by assumption) (by assumption)) | (unfold vp_in; decide) | ((with_reducible (repeat (first | assumption | (refine sf_lays ?_ ?_ ?_; (with_reducible first | assumption | exact m20 (by assumption) (by assumption) | exact ga20 (by assumption) (by assumption)); (with_reducible first | exact v11_0 | exact v11_1 | exact v11_6 | exact v11_7 | exact v11_8 | exact v11_9 | exact v11_10 | exact w2 (by assumption) | exact w2 (min4 (by assumption)))) | (refine sf_adds ?_ ?_; (with_reducible first | exact v8_0 | exact v8_1 | exact v8_2 | exact v8_3 | exact v8_4 | exact v8_5 | exact v8_6 | exact v8_7)) | (refine sf_u (by omega) ?_)))); done)) (by first | (with_reducible first | assumption | exact m20 (by assumption) (by assumption) | exact ga20 (by assumption) (by assumption) | exact w2 (by assumption) | exact w2 (min4 (by assumption)) | exact w2 (s46 (by assumption)) | exact min4 (by assumption) | exact s46 (by assumption) | exact min11 (by assumption) (by assumption)) | (unfold vp_in; decide) | ((with_reducible (repeat (first | assumption | (refine sf_lays ?_ ?_ ?_; (with_reducible first | assumption | exact m20 (by assumption) (by assumption) | exact ga20 (by assumption) (by assumption)); (with_reducible first | exact v11_0 | exact v11_1 | exact v11_6 | exact v11_7 | exact v11_8 | exact v11_9 | exact v11_10 | exact w2 (by assumption) | exact w2 (min4 (by assumption)))) | (refine sf_adds ?_ ?_; (with_reducible first | exact v8_0 | exact v8_1 | exact v8_2 | exact v8_3 | exact v8_4 | exact v8_5 | exact v8_6 | exact v8_7)) | (refine sf_u (by omega) ?_)))); done))) (cwV 3 hts gX6_demand_X6_lays rfl rfl rfl (by decide +kernel) ⟨Nat.le_of_ble_eq_true rfl, Nat.le_of_ble_eq_true rfl⟩) hP hD hK hX hS hA 0 5 md_0 rfl rfl hl.1 rfl (Nat.le_of_ble_eq_true rfl) dX6_demand_60 ⟨Nat.zero_le _, Nat.zero_le _⟩ (fun H locs hP hD hS => ?_)
        refine lv_aload_n hx hb dX6_demand_63 rfl (lv_at hl 2 rfl) ?_
        refine lv_iconst (v := 5) hx hb dX6_demand_64 (by decide) ?_
        refine lv_aload_n hx hb dX6_demand_65 rfl (lv_at hl 2 rfl) ?_
        refine lv_aload_n hx hb dX6_demand_66 rfl (lv_at hl 2 rfl) ?_
        refine roV CF (c_X6_season l D cI cC cW t _ _ _  ) (cwV 0 hts gX6_demand_X6_season rfl rfl rfl (by decide +kernel) ⟨Nat.le_of_ble_eq_true rfl, Nat.le_of_ble_eq_true rfl⟩) hP hK hX hS 0 5 md_0 rfl rfl hl.1 rfl (Nat.le_of_ble_eq_true rfl) dX6_demand_67 ⟨Nat.zero_le _, Nat.zero_le _⟩ ?_
        refine roV CF (c_X6_weeklyOf l D cI cC cW t _ _ _ _ (sf_lays (m20 hsf c5) (w2 (min4 c14)) hsf) (s46 (sf_lays (m20 hsf c5) (w2 (min4 c14)) hsf))) (cwV 1 hts gX6_demand_X6_weeklyOf rfl rfl rfl (by decide +kernel) ⟨Nat.le_of_ble_eq_true rfl, Nat.le_of_ble_eq_true rfl⟩) hP hK hX hS 0 5 md_0 rfl rfl hl.1 rfl (Nat.le_of_ble_eq_true rfl) dX6_demand_70 ⟨Nat.zero_le _, Nat.zero_le _⟩ ?_
        refine lv_iload hx hb dX6_demand_73 (lv_at hl 0 rfl) ?_
        refine lv_isub hx hb dX6_demand_75 ?_
        refine rwVv CF (c_X6_adds l D cI cC cW t _ _ _ _ _ _ (by first | (with_reducible first | assumption | exact m20 (by assumption) (by assumption) | exact ga20 (by assumption) (by assumption) | exact w2 (by assumption) | exact w2 (min4 (by assumption)) | exact w2 (s46 (by assumption)) | exact min4 (by assumption) | exact s46 (by assumption) | exact min11 (by assumption) (by assumption)) | (unfold vp_in; decide) | ((with_reducible (repeat (first | assumption | (refine sf_lays ?_ ?_ ?_; (with_reducible first | assumption | exact m20 (by assumption) (by assumption) | exact ga20 (by assumption) (by assumption)); (with_reducible first | exact v11_0 | exact v11_1 | exact v11_6 | exact v11_7 | exact v11_8 | exact v11_9 | exact v11_10 | exact w2 (by assumption) | exact w2 (min4 (by assumption)))) | (refine sf_adds ?_ ?_; (with_reducible first | exact v8_0 | exact v8_1 | exact v8_2 | exact v8_3 | exact v8_4 | exact v8_5 | exact v8_6 | exact v8_7)) | (refine sf_u (by omega) ?_)))); done))) (cwV 2 hts gX6_demand_X6_adds rfl rfl rfl (by decide +kernel) ⟨Nat.le_of_ble_eq_true rfl, Nat.le_of_ble_eq_true rfl⟩) hP hD hK hX hS hA 0 5 md_0 rfl rfl hl.1 rfl (Nat.le_of_ble_eq_true rfl) dX6_demand_76 ⟨Nat.zero_le _, Nat.zero_le _⟩ (fun H locs hP hD hS => ?_)
        refine lv_iload hx hb dX6_demand_79 (lv_at hl 1 rfl) ?_
        exact rwM_ret hx hb hr hP hD hS (Eq.trans (if_neg c5) (Eq.trans (if_neg c14) (Eq.trans (if_neg c25) (rfl)))) dX6_demand_81 hlocks
      · refine lv_iconst (v := -1) hx hb dX6_demand_28 (by decide) ?_
        exact rwM_ret hx hb hr hP hD hS (Eq.trans (if_neg c5) (Eq.trans (if_neg c14) (Eq.trans (if_pos c25) (rfl)))) dX6_demand_29 hlocks

def sp_X6_move (N : Nat → Int32) (Z : Nat → Nat → Int32) (x1 x2 : Int32) : Int32 × ((Nat → Int32) × (Nat → Nat → Int32)) :=
  if (sp_X6_isGood N Z x1) = 0 then (((-1 : Int32), (N, Z))) else (if (sp_X6_isSlot x2) = 0 then (((-1 : Int32), (N, Z))) else (if (sp_X6_canMove N Z x1 x2) = 0 then (((-2 : Int32), (N, Z))) else (let k30_1 : Nat → Nat → Int32 := sp_X6_records N Z; let k38_2 : Int32 × (Nat → Int32) := sp_X6_goes N k30_1 x1 x2; let N3 : Nat → Int32 := k38_2.2; (((100000000 : Int32) + k38_2.1), (N3, k30_1)))))
set_option maxHeartbeats 4000000 in
set_option maxRecDepth 100000 in
theorem c_X6_move (l : Launch) (D : va_G) (cI cC cW : ClassId) (t : Nat → Nat) (a : Nat → Nat) (sz : Nat) (N : Nat → Int32) (Z : Nat → Nat → Int32) (x1 x2 : Int32) (hsf : sfN N) (hps : psZ Z) : Met l yX6_move wsX6_move ({ frames := 4, cells := 0, slots := 0, locals := 94 }) (va_Pc [.ref (a 0), .int x1, .int x2] (rwP D (tyL cI cC cW) (md cI a N Z) t sz)) (va_Qi (fun (r : Int32) (u : ((Nat → Int32) × (Nat → Nat → Int32))) => (r, u) = sp_X6_move N Z x1 x2) (fun u => rwB D (va_A (md cI a N Z) sz) (md cI a u.1 u.2)) (va_A (md cI a N Z) sz)) 0 0 (va_A (md cI a N Z) sz) := by
  refine Met.ofW (cc := cX6_move) (maxL := 3) (ret := (some .int)) (by decide) rfl ?_
  intro p e s m args below meth c s₁ B hml hv
  obtain ⟨rfl, hsz, hP, hK, hD0, hX⟩ := hv
  have hx := B.exec
  have hb := B.bytes
  have hr := B.returns
  have hts := atoms_spec (ws := wsX6_move) B.pre
  have hown : s.vm.findClass RX6 = some m.cls := findClass_of_methodNamed B.named
  have hlocks := B.notSynchronized
  subst hsz
  have hD := hD0.self (sz := s.heap.size)
  generalize hAe : va_A (md cI a N Z) s.heap.size = A at hD hX ⊢
  have hA : ∀ q : Nat, s.heap.size ≤ q → A q := fun q h => by rw [← hAe]; exact Or.inr h
  have hS : va_S A s.heap s.heap [] := va_S.rf
  have wd1 : (Cond.constant RX6 127 (100000000)).before [.ref (a 0), .int x1, .int x2].toArray s = true := hts _ (List.mem_of_getElem? (i := 1) rfl)
  have CF : CallFix p m c cX6_move 3 s [.ref (a 0), .int x1, .int x2].toArray wsX6_move RX6 := ⟨hx, hb, hml, hown, hts⟩
  have hl := lv_entry ([.ref (a 0), .int x1, .int x2]) (n := 3) (Nat.le_of_ble_eq_true rfl)
  rw [lg_entry_eq]
  generalize (lg_sl ([.ref (a 0), .int x1, .int x2]) ++ List.replicate (3 - (lg_sl ([.ref (a 0), .int x1, .int x2])).length) Slot.unset).toArray = ls at hl ⊢
  have hl : lv_has ls 3 [(0, .ref (a 0)), (1, .int x1), (2, .int x2)] := hl
  refine lv_aload_n hx hb dX6_move_0 rfl (lv_at hl 0 rfl) ?_
  refine lv_iload_n hx hb dX6_move_1 rfl (lv_at hl 1 rfl) ?_
  refine roV CF (c_X6_isGood l D cI cC cW t _ _ _ _ ) (cwV 1 hts gX6_move_X6_isGood rfl rfl rfl (by decide +kernel) ⟨Nat.le_of_ble_eq_true rfl, Nat.le_of_ble_eq_true rfl⟩) hP hK hX hS 0 5 md_0 rfl rfl hl.1 rfl (Nat.le_of_ble_eq_true rfl) dX6_move_2 ⟨Nat.zero_le _, Nat.zero_le _⟩ ?_
  refine lv_if_eq (tgt := 15) hx hb dX6_move_5 (by decide) (fun c5 => ?_) (fun c5 => ?_)
  · refine lv_iconst (v := -1) hx hb dX6_move_15 (by decide) ?_
    exact rwM_ret hx hb hr hP hD hS (Eq.trans (if_pos c5) (rfl)) dX6_move_16 hlocks
  · refine lv_iload_n hx hb dX6_move_8 rfl (lv_at hl 2 rfl) ?_
    refine roS CF (c_X6_isSlot l D cI cC cW t _ ) (va_cwS 1 hts gX6_move_X6_isSlot rfl rfl rfl (by decide +kernel) ⟨Nat.le_of_ble_eq_true rfl, Nat.le_of_ble_eq_true rfl⟩) vP_nil hK hX hS rfl hl.1 rfl (Nat.le_of_ble_eq_true rfl) dX6_move_9 ⟨Nat.zero_le _, Nat.zero_le _⟩ ?_
    refine lv_if_ne (tgt := 17) hx hb dX6_move_12 (by decide) (fun c12 => ?_) (fun c12 => ?_)
    · refine lv_aload_n hx hb dX6_move_17 rfl (lv_at hl 0 rfl) ?_
      refine lv_iload_n hx hb dX6_move_18 rfl (lv_at hl 1 rfl) ?_
      refine lv_iload_n hx hb dX6_move_19 rfl (lv_at hl 2 rfl) ?_
      refine roV CF (c_X6_canMove l D cI cC cW t _ _ _ _ _ (by first | (with_reducible first | assumption | exact m20 (by assumption) (by assumption) | exact ga20 (by assumption) (by assumption) | exact w2 (by assumption) | exact w2 (min4 (by assumption)) | exact w2 (s46 (by assumption)) | exact min4 (by assumption) | exact s46 (by assumption) | exact min11 (by assumption) (by assumption)) | (unfold vp_in; decide) | ((with_reducible (repeat (first | assumption | (refine sf_lays ?_ ?_ ?_; (with_reducible first | assumption | exact m20 (by assumption) (by assumption) | exact ga20 (by assumption) (by assumption)); (with_reducible first | exact v11_0 | exact v11_1 | exact v11_6 | exact v11_7 | exact v11_8 | exact v11_9 | exact v11_10 | exact w2 (by assumption) | exact w2 (min4 (by assumption)))) | (refine sf_adds ?_ ?_; (with_reducible first | exact v8_0 | exact v8_1 | exact v8_2 | exact v8_3 | exact v8_4 | exact v8_5 | exact v8_6 | exact v8_7)) | (refine sf_u (by omega) ?_)))); done)) (by first | (with_reducible first | assumption | exact m20 (by assumption) (by assumption) | exact ga20 (by assumption) (by assumption) | exact w2 (by assumption) | exact w2 (min4 (by assumption)) | exact w2 (s46 (by assumption)) | exact min4 (by assumption) | exact s46 (by assumption) | exact min11 (by assumption) (by assumption)) | (unfold vp_in; decide) | ((with_reducible (repeat (first | assumption | (refine sf_lays ?_ ?_ ?_; (with_reducible first | assumption | exact m20 (by assumption) (by assumption) | exact ga20 (by assumption) (by assumption)); (with_reducible first | exact v11_0 | exact v11_1 | exact v11_6 | exact v11_7 | exact v11_8 | exact v11_9 | exact v11_10 | exact w2 (by assumption) | exact w2 (min4 (by assumption)))) | (refine sf_adds ?_ ?_; (with_reducible first | exact v8_0 | exact v8_1 | exact v8_2 | exact v8_3 | exact v8_4 | exact v8_5 | exact v8_6 | exact v8_7)) | (refine sf_u (by omega) ?_)))); done))) (cwV 2 hts gX6_move_X6_canMove rfl rfl rfl (by decide +kernel) ⟨Nat.le_of_ble_eq_true rfl, Nat.le_of_ble_eq_true rfl⟩) hP hK hX hS 0 5 md_0 rfl rfl hl.1 rfl (Nat.le_of_ble_eq_true rfl) dX6_move_20 ⟨Nat.zero_le _, Nat.zero_le _⟩ ?_
      refine lv_if_ne (tgt := 29) hx hb dX6_move_23 (by decide) (fun c23 => ?_) (fun c23 => ?_)
      · refine lv_aload_n hx hb dX6_move_29 rfl (lv_at hl 0 rfl) ?_
        refine rwVv CF (c_X6_records l D cI cC cW t _ _ _ _  (by first | (with_reducible first | assumption | exact m20 (by assumption) (by assumption) | exact ga20 (by assumption) (by assumption) | exact w2 (by assumption) | exact w2 (min4 (by assumption)) | exact w2 (s46 (by assumption)) | exact min4 (by assumption) | exact s46 (by assumption) | exact min11 (by assumption) (by assumption)) | (unfold vp_in; decide) | ((with_reducible (repeat (first | assumption | (refine sf_lays ?_ ?_ ?_; (with_reducible first | assumption | exact m20 (by assumption) (by assumption) | exact ga20 (by assumption) (by assumption)); (with_reducible first | exact v11_0 | exact v11_1 | exact v11_6 | exact v11_7 | exact v11_8 | exact v11_9 | exact v11_10 | exact w2 (by assumption) | exact w2 (min4 (by assumption)))) | (refine sf_adds ?_ ?_; (with_reducible first | exact v8_0 | exact v8_1 | exact v8_2 | exact v8_3 | exact v8_4 | exact v8_5 | exact v8_6 | exact v8_7)) | (refine sf_u (by omega) ?_)))); done))) (cwV 0 hts gX6_move_X6_records rfl rfl rfl (by decide +kernel) ⟨Nat.le_of_ble_eq_true rfl, Nat.le_of_ble_eq_true rfl⟩) hP hD hK hX hS hA 0 5 md_0 rfl rfl hl.1 rfl (Nat.le_of_ble_eq_true rfl) dX6_move_30 ⟨Nat.zero_le _, Nat.zero_le _⟩ (fun H locs hP hD hS => ?_)
        refine lv_ldc hx hb hown wd1 dX6_move_33 ?_
        refine lv_aload_n hx hb dX6_move_35 rfl (lv_at hl 0 rfl) ?_
        refine lv_iload_n hx hb dX6_move_36 rfl (lv_at hl 1 rfl) ?_
        refine lv_iload_n hx hb dX6_move_37 rfl (lv_at hl 2 rfl) ?_
        refine rwV CF (c_X6_goes l D cI cC cW t _ _ _ _ _ _ (by first | (with_reducible first | assumption | exact m20 (by assumption) (by assumption) | exact ga20 (by assumption) (by assumption) | exact w2 (by assumption) | exact w2 (min4 (by assumption)) | exact w2 (s46 (by assumption)) | exact min4 (by assumption) | exact s46 (by assumption) | exact min11 (by assumption) (by assumption)) | (unfold vp_in; decide) | ((with_reducible (repeat (first | assumption | (refine sf_lays ?_ ?_ ?_; (with_reducible first | assumption | exact m20 (by assumption) (by assumption) | exact ga20 (by assumption) (by assumption)); (with_reducible first | exact v11_0 | exact v11_1 | exact v11_6 | exact v11_7 | exact v11_8 | exact v11_9 | exact v11_10 | exact w2 (by assumption) | exact w2 (min4 (by assumption)))) | (refine sf_adds ?_ ?_; (with_reducible first | exact v8_0 | exact v8_1 | exact v8_2 | exact v8_3 | exact v8_4 | exact v8_5 | exact v8_6 | exact v8_7)) | (refine sf_u (by omega) ?_)))); done)) (by first | (with_reducible first | assumption | exact m20 (by assumption) (by assumption) | exact ga20 (by assumption) (by assumption) | exact w2 (by assumption) | exact w2 (min4 (by assumption)) | exact w2 (s46 (by assumption)) | exact min4 (by assumption) | exact s46 (by assumption) | exact min11 (by assumption) (by assumption)) | (unfold vp_in; decide) | ((with_reducible (repeat (first | assumption | (refine sf_lays ?_ ?_ ?_; (with_reducible first | assumption | exact m20 (by assumption) (by assumption) | exact ga20 (by assumption) (by assumption)); (with_reducible first | exact v11_0 | exact v11_1 | exact v11_6 | exact v11_7 | exact v11_8 | exact v11_9 | exact v11_10 | exact w2 (by assumption) | exact w2 (min4 (by assumption)))) | (refine sf_adds ?_ ?_; (with_reducible first | exact v8_0 | exact v8_1 | exact v8_2 | exact v8_3 | exact v8_4 | exact v8_5 | exact v8_6 | exact v8_7)) | (refine sf_u (by omega) ?_)))); done))) (cwV 2 hts gX6_move_X6_goes rfl rfl rfl (by decide +kernel) ⟨Nat.le_of_ble_eq_true rfl, Nat.le_of_ble_eq_true rfl⟩) hP hD hK hX hS hA 0 5 md_0 rfl rfl hl.1 rfl (Nat.le_of_ble_eq_true rfl) dX6_move_38 ⟨Nat.zero_le _, Nat.zero_le _⟩ (fun H locs hP hD hS => ?_)
        refine lv_iadd hx hb dX6_move_41 ?_
        exact rwM_ret hx hb hr hP hD hS (Eq.trans (if_neg c5) (Eq.trans (if_neg c12) (Eq.trans (if_neg c23) (rfl)))) dX6_move_42 hlocks
      · refine lv_bipush (v := -2) hx hb dX6_move_26 (by decide) ?_
        exact rwM_ret hx hb hr hP hD hS (Eq.trans (if_neg c5) (Eq.trans (if_neg c12) (Eq.trans (if_pos c23) (rfl)))) dX6_move_28 hlocks
    · refine lv_iconst (v := -1) hx hb dX6_move_15 (by decide) ?_
      exact rwM_ret hx hb hr hP hD hS (Eq.trans (if_neg c5) (Eq.trans (if_pos c12) (rfl))) dX6_move_16 hlocks

def sp_X6_exchange (N : Nat → Int32) (Z : Nat → Nat → Int32) (x1 x2 : Int32) : Int32 × ((Nat → Int32) × (Nat → Nat → Int32)) :=
  if (sp_X6_isGood N Z x1) = 0 then (((-1 : Int32), (N, Z))) else (if (sp_X6_isGood N Z x2) = 0 then (((-1 : Int32), (N, Z))) else (if x1 = x2 then (((-1 : Int32), (N, Z))) else (if (sp_X6_canExchange N Z x1 x2) = 0 then (((-2 : Int32), (N, Z))) else (let k36_1 : Nat → Nat → Int32 := sp_X6_records N Z; let k50_2 : Int32 × (Nat → Int32) := sp_X6_goes N k36_1 x1 (sp_X6_of N k36_1 x2 (6 : Int32)); let N3 : Nat → Int32 := k50_2.2; (((100000000 : Int32) + k50_2.1), (N3, k36_1))))))
set_option maxHeartbeats 4000000 in
set_option maxRecDepth 100000 in
theorem c_X6_exchange (l : Launch) (D : va_G) (cI cC cW : ClassId) (t : Nat → Nat) (a : Nat → Nat) (sz : Nat) (N : Nat → Int32) (Z : Nat → Nat → Int32) (x1 x2 : Int32) (hsf : sfN N) (hps : psZ Z) : Met l yX6_exchange wsX6_exchange ({ frames := 4, cells := 0, slots := 0, locals := 94 }) (va_Pc [.ref (a 0), .int x1, .int x2] (rwP D (tyL cI cC cW) (md cI a N Z) t sz)) (va_Qi (fun (r : Int32) (u : ((Nat → Int32) × (Nat → Nat → Int32))) => (r, u) = sp_X6_exchange N Z x1 x2) (fun u => rwB D (va_A (md cI a N Z) sz) (md cI a u.1 u.2)) (va_A (md cI a N Z) sz)) 0 0 (va_A (md cI a N Z) sz) := by
  refine Met.ofW (cc := cX6_exchange) (maxL := 3) (ret := (some .int)) (by decide) rfl ?_
  intro p e s m args below meth c s₁ B hml hv
  obtain ⟨rfl, hsz, hP, hK, hD0, hX⟩ := hv
  have hx := B.exec
  have hb := B.bytes
  have hr := B.returns
  have hts := atoms_spec (ws := wsX6_exchange) B.pre
  have hown : s.vm.findClass RX6 = some m.cls := findClass_of_methodNamed B.named
  have hlocks := B.notSynchronized
  subst hsz
  have hD := hD0.self (sz := s.heap.size)
  generalize hAe : va_A (md cI a N Z) s.heap.size = A at hD hX ⊢
  have hA : ∀ q : Nat, s.heap.size ≤ q → A q := fun q h => by rw [← hAe]; exact Or.inr h
  have hS : va_S A s.heap s.heap [] := va_S.rf
  have wd1 : (Cond.constant RX6 127 (100000000)).before [.ref (a 0), .int x1, .int x2].toArray s = true := hts _ (List.mem_of_getElem? (i := 1) rfl)
  have CF : CallFix p m c cX6_exchange 3 s [.ref (a 0), .int x1, .int x2].toArray wsX6_exchange RX6 := ⟨hx, hb, hml, hown, hts⟩
  have hl := lv_entry ([.ref (a 0), .int x1, .int x2]) (n := 3) (Nat.le_of_ble_eq_true rfl)
  rw [lg_entry_eq]
  generalize (lg_sl ([.ref (a 0), .int x1, .int x2]) ++ List.replicate (3 - (lg_sl ([.ref (a 0), .int x1, .int x2])).length) Slot.unset).toArray = ls at hl ⊢
  have hl : lv_has ls 3 [(0, .ref (a 0)), (1, .int x1), (2, .int x2)] := hl
  refine lv_aload_n hx hb dX6_exchange_0 rfl (lv_at hl 0 rfl) ?_
  refine lv_iload_n hx hb dX6_exchange_1 rfl (lv_at hl 1 rfl) ?_
  refine roV CF (c_X6_isGood l D cI cC cW t _ _ _ _ ) (cwV 1 hts gX6_exchange_X6_isGood rfl rfl rfl (by decide +kernel) ⟨Nat.le_of_ble_eq_true rfl, Nat.le_of_ble_eq_true rfl⟩) hP hK hX hS 0 5 md_0 rfl rfl hl.1 rfl (Nat.le_of_ble_eq_true rfl) dX6_exchange_2 ⟨Nat.zero_le _, Nat.zero_le _⟩ ?_
  refine lv_if_eq (tgt := 21) hx hb dX6_exchange_5 (by decide) (fun c5 => ?_) (fun c5 => ?_)
  · refine lv_iconst (v := -1) hx hb dX6_exchange_21 (by decide) ?_
    exact rwM_ret hx hb hr hP hD hS (Eq.trans (if_pos c5) (rfl)) dX6_exchange_22 hlocks
  · refine lv_aload_n hx hb dX6_exchange_8 rfl (lv_at hl 0 rfl) ?_
    refine lv_iload_n hx hb dX6_exchange_9 rfl (lv_at hl 2 rfl) ?_
    refine roV CF (c_X6_isGood l D cI cC cW t _ _ _ _ ) (cwV 1 hts gX6_exchange_X6_isGood rfl rfl rfl (by decide +kernel) ⟨Nat.le_of_ble_eq_true rfl, Nat.le_of_ble_eq_true rfl⟩) hP hK hX hS 0 5 md_0 rfl rfl hl.1 rfl (Nat.le_of_ble_eq_true rfl) dX6_exchange_10 ⟨Nat.zero_le _, Nat.zero_le _⟩ ?_
    refine lv_if_eq (tgt := 21) hx hb dX6_exchange_13 (by decide) (fun c13 => ?_) (fun c13 => ?_)
    · refine lv_iconst (v := -1) hx hb dX6_exchange_21 (by decide) ?_
      exact rwM_ret hx hb hr hP hD hS (Eq.trans (if_neg c5) (Eq.trans (if_pos c13) (rfl))) dX6_exchange_22 hlocks
    · refine lv_iload_n hx hb dX6_exchange_16 rfl (lv_at hl 1 rfl) ?_
      refine lv_iload_n hx hb dX6_exchange_17 rfl (lv_at hl 2 rfl) ?_
      refine lv_icmp_ne (tgt := 23) hx hb dX6_exchange_18 (by decide) (fun c18 => ?_) (fun c18 => ?_)
      · refine lv_aload_n hx hb dX6_exchange_23 rfl (lv_at hl 0 rfl) ?_
        refine lv_iload_n hx hb dX6_exchange_24 rfl (lv_at hl 1 rfl) ?_
        refine lv_iload_n hx hb dX6_exchange_25 rfl (lv_at hl 2 rfl) ?_
        refine roV CF (c_X6_canExchange l D cI cC cW t _ _ _ _ _ (by first | (with_reducible first | assumption | exact m20 (by assumption) (by assumption) | exact ga20 (by assumption) (by assumption) | exact w2 (by assumption) | exact w2 (min4 (by assumption)) | exact w2 (s46 (by assumption)) | exact min4 (by assumption) | exact s46 (by assumption) | exact min11 (by assumption) (by assumption)) | (unfold vp_in; decide) | ((with_reducible (repeat (first | assumption | (refine sf_lays ?_ ?_ ?_; (with_reducible first | assumption | exact m20 (by assumption) (by assumption) | exact ga20 (by assumption) (by assumption)); (with_reducible first | exact v11_0 | exact v11_1 | exact v11_6 | exact v11_7 | exact v11_8 | exact v11_9 | exact v11_10 | exact w2 (by assumption) | exact w2 (min4 (by assumption)))) | (refine sf_adds ?_ ?_; (with_reducible first | exact v8_0 | exact v8_1 | exact v8_2 | exact v8_3 | exact v8_4 | exact v8_5 | exact v8_6 | exact v8_7)) | (refine sf_u (by omega) ?_)))); done)) (by first | (with_reducible first | assumption | exact m20 (by assumption) (by assumption) | exact ga20 (by assumption) (by assumption) | exact w2 (by assumption) | exact w2 (min4 (by assumption)) | exact w2 (s46 (by assumption)) | exact min4 (by assumption) | exact s46 (by assumption) | exact min11 (by assumption) (by assumption)) | (unfold vp_in; decide) | ((with_reducible (repeat (first | assumption | (refine sf_lays ?_ ?_ ?_; (with_reducible first | assumption | exact m20 (by assumption) (by assumption) | exact ga20 (by assumption) (by assumption)); (with_reducible first | exact v11_0 | exact v11_1 | exact v11_6 | exact v11_7 | exact v11_8 | exact v11_9 | exact v11_10 | exact w2 (by assumption) | exact w2 (min4 (by assumption)))) | (refine sf_adds ?_ ?_; (with_reducible first | exact v8_0 | exact v8_1 | exact v8_2 | exact v8_3 | exact v8_4 | exact v8_5 | exact v8_6 | exact v8_7)) | (refine sf_u (by omega) ?_)))); done))) (cwV 2 hts gX6_exchange_X6_canExchange rfl rfl rfl (by decide +kernel) ⟨Nat.le_of_ble_eq_true rfl, Nat.le_of_ble_eq_true rfl⟩) hP hK hX hS 0 5 md_0 rfl rfl hl.1 rfl (Nat.le_of_ble_eq_true rfl) dX6_exchange_26 ⟨Nat.zero_le _, Nat.zero_le _⟩ ?_
        refine lv_if_ne (tgt := 35) hx hb dX6_exchange_29 (by decide) (fun c29 => ?_) (fun c29 => ?_)
        · refine lv_aload_n hx hb dX6_exchange_35 rfl (lv_at hl 0 rfl) ?_
          refine rwVv CF (c_X6_records l D cI cC cW t _ _ _ _  (by first | (with_reducible first | assumption | exact m20 (by assumption) (by assumption) | exact ga20 (by assumption) (by assumption) | exact w2 (by assumption) | exact w2 (min4 (by assumption)) | exact w2 (s46 (by assumption)) | exact min4 (by assumption) | exact s46 (by assumption) | exact min11 (by assumption) (by assumption)) | (unfold vp_in; decide) | ((with_reducible (repeat (first | assumption | (refine sf_lays ?_ ?_ ?_; (with_reducible first | assumption | exact m20 (by assumption) (by assumption) | exact ga20 (by assumption) (by assumption)); (with_reducible first | exact v11_0 | exact v11_1 | exact v11_6 | exact v11_7 | exact v11_8 | exact v11_9 | exact v11_10 | exact w2 (by assumption) | exact w2 (min4 (by assumption)))) | (refine sf_adds ?_ ?_; (with_reducible first | exact v8_0 | exact v8_1 | exact v8_2 | exact v8_3 | exact v8_4 | exact v8_5 | exact v8_6 | exact v8_7)) | (refine sf_u (by omega) ?_)))); done))) (cwV 0 hts gX6_exchange_X6_records rfl rfl rfl (by decide +kernel) ⟨Nat.le_of_ble_eq_true rfl, Nat.le_of_ble_eq_true rfl⟩) hP hD hK hX hS hA 0 5 md_0 rfl rfl hl.1 rfl (Nat.le_of_ble_eq_true rfl) dX6_exchange_36 ⟨Nat.zero_le _, Nat.zero_le _⟩ (fun H locs hP hD hS => ?_)
          refine lv_ldc hx hb hown wd1 dX6_exchange_39 ?_
          refine lv_aload_n hx hb dX6_exchange_41 rfl (lv_at hl 0 rfl) ?_
          refine lv_iload_n hx hb dX6_exchange_42 rfl (lv_at hl 1 rfl) ?_
          refine lv_aload_n hx hb dX6_exchange_43 rfl (lv_at hl 0 rfl) ?_
          refine lv_iload_n hx hb dX6_exchange_44 rfl (lv_at hl 2 rfl) ?_
          refine lv_bipush (v := 6) hx hb dX6_exchange_45 (by decide) ?_
          refine roV CF (c_X6_of l D cI cC cW t _ _ _ _ _ (by first | (with_reducible first | assumption | exact m20 (by assumption) (by assumption) | exact ga20 (by assumption) (by assumption) | exact w2 (by assumption) | exact w2 (min4 (by assumption)) | exact w2 (s46 (by assumption)) | exact min4 (by assumption) | exact s46 (by assumption) | exact min11 (by assumption) (by assumption)) | (unfold vp_in; decide) | ((with_reducible (repeat (first | assumption | (refine sf_lays ?_ ?_ ?_; (with_reducible first | assumption | exact m20 (by assumption) (by assumption) | exact ga20 (by assumption) (by assumption)); (with_reducible first | exact v11_0 | exact v11_1 | exact v11_6 | exact v11_7 | exact v11_8 | exact v11_9 | exact v11_10 | exact w2 (by assumption) | exact w2 (min4 (by assumption)))) | (refine sf_adds ?_ ?_; (with_reducible first | exact v8_0 | exact v8_1 | exact v8_2 | exact v8_3 | exact v8_4 | exact v8_5 | exact v8_6 | exact v8_7)) | (refine sf_u (by omega) ?_)))); done)) (by first | (with_reducible first | assumption | exact m20 (by assumption) (by assumption) | exact ga20 (by assumption) (by assumption) | exact w2 (by assumption) | exact w2 (min4 (by assumption)) | exact w2 (s46 (by assumption)) | exact min4 (by assumption) | exact s46 (by assumption) | exact min11 (by assumption) (by assumption)) | (unfold vp_in; decide) | ((with_reducible (repeat (first | assumption | (refine sf_lays ?_ ?_ ?_; (with_reducible first | assumption | exact m20 (by assumption) (by assumption) | exact ga20 (by assumption) (by assumption)); (with_reducible first | exact v11_0 | exact v11_1 | exact v11_6 | exact v11_7 | exact v11_8 | exact v11_9 | exact v11_10 | exact w2 (by assumption) | exact w2 (min4 (by assumption)))) | (refine sf_adds ?_ ?_; (with_reducible first | exact v8_0 | exact v8_1 | exact v8_2 | exact v8_3 | exact v8_4 | exact v8_5 | exact v8_6 | exact v8_7)) | (refine sf_u (by omega) ?_)))); done))) (cwV 2 hts gX6_exchange_X6_of rfl rfl rfl (by decide +kernel) ⟨Nat.le_of_ble_eq_true rfl, Nat.le_of_ble_eq_true rfl⟩) hP hK hX hS 0 5 md_0 rfl rfl hl.1 rfl (Nat.le_of_ble_eq_true rfl) dX6_exchange_47 ⟨Nat.zero_le _, Nat.zero_le _⟩ ?_
          refine rwV CF (c_X6_goes l D cI cC cW t _ _ _ _ _ _ (by first | (with_reducible first | assumption | exact m20 (by assumption) (by assumption) | exact ga20 (by assumption) (by assumption) | exact w2 (by assumption) | exact w2 (min4 (by assumption)) | exact w2 (s46 (by assumption)) | exact min4 (by assumption) | exact s46 (by assumption) | exact min11 (by assumption) (by assumption)) | (unfold vp_in; decide) | ((with_reducible (repeat (first | assumption | (refine sf_lays ?_ ?_ ?_; (with_reducible first | assumption | exact m20 (by assumption) (by assumption) | exact ga20 (by assumption) (by assumption)); (with_reducible first | exact v11_0 | exact v11_1 | exact v11_6 | exact v11_7 | exact v11_8 | exact v11_9 | exact v11_10 | exact w2 (by assumption) | exact w2 (min4 (by assumption)))) | (refine sf_adds ?_ ?_; (with_reducible first | exact v8_0 | exact v8_1 | exact v8_2 | exact v8_3 | exact v8_4 | exact v8_5 | exact v8_6 | exact v8_7)) | (refine sf_u (by omega) ?_)))); done)) (by first | (with_reducible first | assumption | exact m20 (by assumption) (by assumption) | exact ga20 (by assumption) (by assumption) | exact w2 (by assumption) | exact w2 (min4 (by assumption)) | exact w2 (s46 (by assumption)) | exact min4 (by assumption) | exact s46 (by assumption) | exact min11 (by assumption) (by assumption)) | (unfold vp_in; decide) | ((with_reducible (repeat (first | assumption | (refine sf_lays ?_ ?_ ?_; (with_reducible first | assumption | exact m20 (by assumption) (by assumption) | exact ga20 (by assumption) (by assumption)); (with_reducible first | exact v11_0 | exact v11_1 | exact v11_6 | exact v11_7 | exact v11_8 | exact v11_9 | exact v11_10 | exact w2 (by assumption) | exact w2 (min4 (by assumption)))) | (refine sf_adds ?_ ?_; (with_reducible first | exact v8_0 | exact v8_1 | exact v8_2 | exact v8_3 | exact v8_4 | exact v8_5 | exact v8_6 | exact v8_7)) | (refine sf_u (by omega) ?_)))); done))) (cwV 2 hts gX6_exchange_X6_goes rfl rfl rfl (by decide +kernel) ⟨Nat.le_of_ble_eq_true rfl, Nat.le_of_ble_eq_true rfl⟩) hP hD hK hX hS hA 0 5 md_0 rfl rfl hl.1 rfl (Nat.le_of_ble_eq_true rfl) dX6_exchange_50 ⟨Nat.zero_le _, Nat.zero_le _⟩ (fun H locs hP hD hS => ?_)
          refine lv_iadd hx hb dX6_exchange_53 ?_
          exact rwM_ret hx hb hr hP hD hS (Eq.trans (if_neg c5) (Eq.trans (if_neg c13) (Eq.trans (if_neg c18) (Eq.trans (if_neg c29) (rfl))))) dX6_exchange_54 hlocks
        · refine lv_bipush (v := -2) hx hb dX6_exchange_32 (by decide) ?_
          exact rwM_ret hx hb hr hP hD hS (Eq.trans (if_neg c5) (Eq.trans (if_neg c13) (Eq.trans (if_neg c18) (Eq.trans (if_pos c29) (rfl))))) dX6_exchange_34 hlocks
      · refine lv_iconst (v := -1) hx hb dX6_exchange_21 (by decide) ?_
        exact rwM_ret hx hb hr hP hD hS (Eq.trans (if_neg c5) (Eq.trans (if_neg c13) (Eq.trans (if_pos c18) (rfl)))) dX6_exchange_22 hlocks

def sp_X6_worth (N : Nat → Int32) (Z : Nat → Nat → Int32) (x1 x2 x3 : Int32) : Int32 :=
  if (sp_X6_isGood N Z x1) = 0 then ((-1 : Int32)) else (if (sp_X6_isSlot x2) = 0 then ((-1 : Int32)) else (if (sp_X6_in x3 (0 : Int32) (2 : Int32)) = 0 then ((-1 : Int32)) else (if (sp_X6_of N Z x1 (6 : Int32)) = x2 then ((-2 : Int32)) else (if (sp_X6_canGo N Z x1 x2) = 0 then ((-2 : Int32)) else (if x3 = 0 then (((100000000 : Int32) + (sp_X6_goWorth N Z x1 x2))) else (if x3 = (1 : Int32) then (((100000000 : Int32) + (sp_X6_goSaves N Z x1 x2))) else ((sp_X6_goWalk N Z x1 x2))))))))
set_option maxHeartbeats 4000000 in
set_option maxRecDepth 100000 in
theorem c_X6_worth (l : Launch) (D : va_G) (cI cC cW : ClassId) (t : Nat → Nat) (a : Nat → Nat) (N : Nat → Int32) (Z : Nat → Nat → Int32) (x1 x2 x3 : Int32) (hsf : sfN N) : Met l yX6_worth wsX6_worth ({ frames := 4, cells := 0, slots := 0, locals := 92 }) (va_Pc [.ref (a 0), .int x1, .int x2, .int x3] (roP D (tyL cI cC cW) (md cI a N Z) t)) (vp_Si (fun r => r = sp_X6_worth N Z x1 x2 x3)) 0 0 (fun _ => False) := by
  refine Met.ofW (cc := cX6_worth) (maxL := 4) (ret := (some .int)) (by decide) rfl ?_
  intro p e s m args below meth c s₁ B hml hv
  obtain ⟨rfl, hP, hK, hX⟩ := hv
  have hx := B.exec
  have hb := B.bytes
  have hr := B.returns
  have hts := atoms_spec (ws := wsX6_worth) B.pre
  have hown : s.vm.findClass RX6 = some m.cls := findClass_of_methodNamed B.named
  have hlocks := B.notSynchronized
  have hS : va_S (fun _ => False) s.heap s.heap [] := va_S.rf
  have wd1 : (Cond.constant RX6 127 (100000000)).before [.ref (a 0), .int x1, .int x2, .int x3].toArray s = true := hts _ (List.mem_of_getElem? (i := 1) rfl)
  have CF : CallFix p m c cX6_worth 4 s [.ref (a 0), .int x1, .int x2, .int x3].toArray wsX6_worth RX6 := ⟨hx, hb, hml, hown, hts⟩
  have hl := lv_entry ([.ref (a 0), .int x1, .int x2, .int x3]) (n := 4) (Nat.le_of_ble_eq_true rfl)
  rw [lg_entry_eq]
  generalize (lg_sl ([.ref (a 0), .int x1, .int x2, .int x3]) ++ List.replicate (4 - (lg_sl ([.ref (a 0), .int x1, .int x2, .int x3])).length) Slot.unset).toArray = ls at hl ⊢
  have hl : lv_has ls 4 [(0, .ref (a 0)), (1, .int x1), (2, .int x2), (3, .int x3)] := hl
  refine lv_aload_n hx hb dX6_worth_0 rfl (lv_at hl 0 rfl) ?_
  refine lv_iload_n hx hb dX6_worth_1 rfl (lv_at hl 1 rfl) ?_
  refine roV CF (c_X6_isGood l D cI cC cW t _ _ _ _ ) (cwV 1 hts gX6_worth_X6_isGood rfl rfl rfl (by decide +kernel) ⟨Nat.le_of_ble_eq_true rfl, Nat.le_of_ble_eq_true rfl⟩) hP hK hX hS 0 5 md_0 rfl rfl hl.1 rfl (Nat.le_of_ble_eq_true rfl) dX6_worth_2 ⟨Nat.zero_le _, Nat.zero_le _⟩ ?_
  refine lv_if_eq (tgt := 24) hx hb dX6_worth_5 (by decide) (fun c5 => ?_) (fun c5 => ?_)
  · refine lv_iconst (v := -1) hx hb dX6_worth_24 (by decide) ?_
    exact ro_ret hx hb hr (Eq.trans (if_pos c5) (rfl)) dX6_worth_25 hlocks
  · refine lv_iload_n hx hb dX6_worth_8 rfl (lv_at hl 2 rfl) ?_
    refine roS CF (c_X6_isSlot l D cI cC cW t _ ) (va_cwS 1 hts gX6_worth_X6_isSlot rfl rfl rfl (by decide +kernel) ⟨Nat.le_of_ble_eq_true rfl, Nat.le_of_ble_eq_true rfl⟩) vP_nil hK hX hS rfl hl.1 rfl (Nat.le_of_ble_eq_true rfl) dX6_worth_9 ⟨Nat.zero_le _, Nat.zero_le _⟩ ?_
    refine lv_if_eq (tgt := 24) hx hb dX6_worth_12 (by decide) (fun c12 => ?_) (fun c12 => ?_)
    · refine lv_iconst (v := -1) hx hb dX6_worth_24 (by decide) ?_
      exact ro_ret hx hb hr (Eq.trans (if_neg c5) (Eq.trans (if_pos c12) (rfl))) dX6_worth_25 hlocks
    · refine lv_iload_n hx hb dX6_worth_15 rfl (lv_at hl 3 rfl) ?_
      refine lv_iconst (v := 0) hx hb dX6_worth_16 (by decide) ?_
      refine lv_iconst (v := 2) hx hb dX6_worth_17 (by decide) ?_
      refine roS CF (c_X6_in l D cI cC cW t _ _ _ ) (va_cwS 3 hts gX6_worth_X6_in rfl rfl rfl (by decide +kernel) ⟨Nat.le_of_ble_eq_true rfl, Nat.le_of_ble_eq_true rfl⟩) vP_nil hK hX hS rfl hl.1 rfl (Nat.le_of_ble_eq_true rfl) dX6_worth_18 ⟨Nat.zero_le _, Nat.zero_le _⟩ ?_
      refine lv_if_ne (tgt := 26) hx hb dX6_worth_21 (by decide) (fun c21 => ?_) (fun c21 => ?_)
      · refine lv_aload_n hx hb dX6_worth_26 rfl (lv_at hl 0 rfl) ?_
        refine lv_iload_n hx hb dX6_worth_27 rfl (lv_at hl 1 rfl) ?_
        refine lv_bipush (v := 6) hx hb dX6_worth_28 (by decide) ?_
        refine roV CF (c_X6_of l D cI cC cW t _ _ _ _ _ (by first | (with_reducible first | assumption | exact m20 (by assumption) (by assumption) | exact ga20 (by assumption) (by assumption) | exact w2 (by assumption) | exact w2 (min4 (by assumption)) | exact w2 (s46 (by assumption)) | exact min4 (by assumption) | exact s46 (by assumption) | exact min11 (by assumption) (by assumption)) | (unfold vp_in; decide) | ((with_reducible (repeat (first | assumption | (refine sf_lays ?_ ?_ ?_; (with_reducible first | assumption | exact m20 (by assumption) (by assumption) | exact ga20 (by assumption) (by assumption)); (with_reducible first | exact v11_0 | exact v11_1 | exact v11_6 | exact v11_7 | exact v11_8 | exact v11_9 | exact v11_10 | exact w2 (by assumption) | exact w2 (min4 (by assumption)))) | (refine sf_adds ?_ ?_; (with_reducible first | exact v8_0 | exact v8_1 | exact v8_2 | exact v8_3 | exact v8_4 | exact v8_5 | exact v8_6 | exact v8_7)) | (refine sf_u (by omega) ?_)))); done)) (by first | (with_reducible first | assumption | exact m20 (by assumption) (by assumption) | exact ga20 (by assumption) (by assumption) | exact w2 (by assumption) | exact w2 (min4 (by assumption)) | exact w2 (s46 (by assumption)) | exact min4 (by assumption) | exact s46 (by assumption) | exact min11 (by assumption) (by assumption)) | (unfold vp_in; decide) | ((with_reducible (repeat (first | assumption | (refine sf_lays ?_ ?_ ?_; (with_reducible first | assumption | exact m20 (by assumption) (by assumption) | exact ga20 (by assumption) (by assumption)); (with_reducible first | exact v11_0 | exact v11_1 | exact v11_6 | exact v11_7 | exact v11_8 | exact v11_9 | exact v11_10 | exact w2 (by assumption) | exact w2 (min4 (by assumption)))) | (refine sf_adds ?_ ?_; (with_reducible first | exact v8_0 | exact v8_1 | exact v8_2 | exact v8_3 | exact v8_4 | exact v8_5 | exact v8_6 | exact v8_7)) | (refine sf_u (by omega) ?_)))); done))) (cwV 2 hts gX6_worth_X6_of rfl rfl rfl (by decide +kernel) ⟨Nat.le_of_ble_eq_true rfl, Nat.le_of_ble_eq_true rfl⟩) hP hK hX hS 0 5 md_0 rfl rfl hl.1 rfl (Nat.le_of_ble_eq_true rfl) dX6_worth_30 ⟨Nat.zero_le _, Nat.zero_le _⟩ ?_
        refine lv_iload_n hx hb dX6_worth_33 rfl (lv_at hl 2 rfl) ?_
        refine lv_icmp_eq (tgt := 46) hx hb dX6_worth_34 (by decide) (fun c34 => ?_) (fun c34 => ?_)
        · refine lv_bipush (v := -2) hx hb dX6_worth_46 (by decide) ?_
          exact ro_ret hx hb hr (Eq.trans (if_neg c5) (Eq.trans (if_neg c12) (Eq.trans (if_neg c21) (Eq.trans (if_pos c34) (rfl))))) dX6_worth_48 hlocks
        · refine lv_aload_n hx hb dX6_worth_37 rfl (lv_at hl 0 rfl) ?_
          refine lv_iload_n hx hb dX6_worth_38 rfl (lv_at hl 1 rfl) ?_
          refine lv_iload_n hx hb dX6_worth_39 rfl (lv_at hl 2 rfl) ?_
          refine roV CF (c_X6_canGo l D cI cC cW t _ _ _ _ _ (by first | (with_reducible first | assumption | exact m20 (by assumption) (by assumption) | exact ga20 (by assumption) (by assumption) | exact w2 (by assumption) | exact w2 (min4 (by assumption)) | exact w2 (s46 (by assumption)) | exact min4 (by assumption) | exact s46 (by assumption) | exact min11 (by assumption) (by assumption)) | (unfold vp_in; decide) | ((with_reducible (repeat (first | assumption | (refine sf_lays ?_ ?_ ?_; (with_reducible first | assumption | exact m20 (by assumption) (by assumption) | exact ga20 (by assumption) (by assumption)); (with_reducible first | exact v11_0 | exact v11_1 | exact v11_6 | exact v11_7 | exact v11_8 | exact v11_9 | exact v11_10 | exact w2 (by assumption) | exact w2 (min4 (by assumption)))) | (refine sf_adds ?_ ?_; (with_reducible first | exact v8_0 | exact v8_1 | exact v8_2 | exact v8_3 | exact v8_4 | exact v8_5 | exact v8_6 | exact v8_7)) | (refine sf_u (by omega) ?_)))); done)) (by first | (with_reducible first | assumption | exact m20 (by assumption) (by assumption) | exact ga20 (by assumption) (by assumption) | exact w2 (by assumption) | exact w2 (min4 (by assumption)) | exact w2 (s46 (by assumption)) | exact min4 (by assumption) | exact s46 (by assumption) | exact min11 (by assumption) (by assumption)) | (unfold vp_in; decide) | ((with_reducible (repeat (first | assumption | (refine sf_lays ?_ ?_ ?_; (with_reducible first | assumption | exact m20 (by assumption) (by assumption) | exact ga20 (by assumption) (by assumption)); (with_reducible first | exact v11_0 | exact v11_1 | exact v11_6 | exact v11_7 | exact v11_8 | exact v11_9 | exact v11_10 | exact w2 (by assumption) | exact w2 (min4 (by assumption)))) | (refine sf_adds ?_ ?_; (with_reducible first | exact v8_0 | exact v8_1 | exact v8_2 | exact v8_3 | exact v8_4 | exact v8_5 | exact v8_6 | exact v8_7)) | (refine sf_u (by omega) ?_)))); done))) (cwV 2 hts gX6_worth_X6_canGo rfl rfl rfl (by decide +kernel) ⟨Nat.le_of_ble_eq_true rfl, Nat.le_of_ble_eq_true rfl⟩) hP hK hX hS 0 5 md_0 rfl rfl hl.1 rfl (Nat.le_of_ble_eq_true rfl) dX6_worth_40 ⟨Nat.zero_le _, Nat.zero_le _⟩ ?_
          refine lv_if_ne (tgt := 49) hx hb dX6_worth_43 (by decide) (fun c43 => ?_) (fun c43 => ?_)
          · refine lv_iload_n hx hb dX6_worth_49 rfl (lv_at hl 3 rfl) ?_
            refine lv_if_ne (tgt := 65) hx hb dX6_worth_50 (by decide) (fun c50 => ?_) (fun c50 => ?_)
            · refine lv_iload_n hx hb dX6_worth_65 rfl (lv_at hl 3 rfl) ?_
              refine lv_iconst (v := 1) hx hb dX6_worth_66 (by decide) ?_
              refine lv_icmp_ne (tgt := 82) hx hb dX6_worth_67 (by decide) (fun c67 => ?_) (fun c67 => ?_)
              · refine lv_aload_n hx hb dX6_worth_82 rfl (lv_at hl 0 rfl) ?_
                refine lv_iload_n hx hb dX6_worth_83 rfl (lv_at hl 1 rfl) ?_
                refine lv_iload_n hx hb dX6_worth_84 rfl (lv_at hl 2 rfl) ?_
                refine roV CF (c_X6_goWalk l D cI cC cW t _ _ _ _ _ (by first | (with_reducible first | assumption | exact m20 (by assumption) (by assumption) | exact ga20 (by assumption) (by assumption) | exact w2 (by assumption) | exact w2 (min4 (by assumption)) | exact w2 (s46 (by assumption)) | exact min4 (by assumption) | exact s46 (by assumption) | exact min11 (by assumption) (by assumption)) | (unfold vp_in; decide) | ((with_reducible (repeat (first | assumption | (refine sf_lays ?_ ?_ ?_; (with_reducible first | assumption | exact m20 (by assumption) (by assumption) | exact ga20 (by assumption) (by assumption)); (with_reducible first | exact v11_0 | exact v11_1 | exact v11_6 | exact v11_7 | exact v11_8 | exact v11_9 | exact v11_10 | exact w2 (by assumption) | exact w2 (min4 (by assumption)))) | (refine sf_adds ?_ ?_; (with_reducible first | exact v8_0 | exact v8_1 | exact v8_2 | exact v8_3 | exact v8_4 | exact v8_5 | exact v8_6 | exact v8_7)) | (refine sf_u (by omega) ?_)))); done)) (by first | (with_reducible first | assumption | exact m20 (by assumption) (by assumption) | exact ga20 (by assumption) (by assumption) | exact w2 (by assumption) | exact w2 (min4 (by assumption)) | exact w2 (s46 (by assumption)) | exact min4 (by assumption) | exact s46 (by assumption) | exact min11 (by assumption) (by assumption)) | (unfold vp_in; decide) | ((with_reducible (repeat (first | assumption | (refine sf_lays ?_ ?_ ?_; (with_reducible first | assumption | exact m20 (by assumption) (by assumption) | exact ga20 (by assumption) (by assumption)); (with_reducible first | exact v11_0 | exact v11_1 | exact v11_6 | exact v11_7 | exact v11_8 | exact v11_9 | exact v11_10 | exact w2 (by assumption) | exact w2 (min4 (by assumption)))) | (refine sf_adds ?_ ?_; (with_reducible first | exact v8_0 | exact v8_1 | exact v8_2 | exact v8_3 | exact v8_4 | exact v8_5 | exact v8_6 | exact v8_7)) | (refine sf_u (by omega) ?_)))); done))) (cwV 2 hts gX6_worth_X6_goWalk rfl rfl rfl (by decide +kernel) ⟨Nat.le_of_ble_eq_true rfl, Nat.le_of_ble_eq_true rfl⟩) hP hK hX hS 0 5 md_0 rfl rfl hl.1 rfl (Nat.le_of_ble_eq_true rfl) dX6_worth_85 ⟨Nat.zero_le _, Nat.zero_le _⟩ ?_
                exact ro_ret hx hb hr (Eq.trans (if_neg c5) (Eq.trans (if_neg c12) (Eq.trans (if_neg c21) (Eq.trans (if_neg c34) (Eq.trans (if_neg c43) (Eq.trans (if_neg c50) (Eq.trans (if_neg c67) (rfl)))))))) dX6_worth_88 hlocks
              · refine lv_ldc hx hb hown wd1 dX6_worth_70 ?_
                refine lv_aload_n hx hb dX6_worth_72 rfl (lv_at hl 0 rfl) ?_
                refine lv_iload_n hx hb dX6_worth_73 rfl (lv_at hl 1 rfl) ?_
                refine lv_iload_n hx hb dX6_worth_74 rfl (lv_at hl 2 rfl) ?_
                refine roV CF (c_X6_goSaves l D cI cC cW t _ _ _ _ _ (by first | (with_reducible first | assumption | exact m20 (by assumption) (by assumption) | exact ga20 (by assumption) (by assumption) | exact w2 (by assumption) | exact w2 (min4 (by assumption)) | exact w2 (s46 (by assumption)) | exact min4 (by assumption) | exact s46 (by assumption) | exact min11 (by assumption) (by assumption)) | (unfold vp_in; decide) | ((with_reducible (repeat (first | assumption | (refine sf_lays ?_ ?_ ?_; (with_reducible first | assumption | exact m20 (by assumption) (by assumption) | exact ga20 (by assumption) (by assumption)); (with_reducible first | exact v11_0 | exact v11_1 | exact v11_6 | exact v11_7 | exact v11_8 | exact v11_9 | exact v11_10 | exact w2 (by assumption) | exact w2 (min4 (by assumption)))) | (refine sf_adds ?_ ?_; (with_reducible first | exact v8_0 | exact v8_1 | exact v8_2 | exact v8_3 | exact v8_4 | exact v8_5 | exact v8_6 | exact v8_7)) | (refine sf_u (by omega) ?_)))); done)) (by first | (with_reducible first | assumption | exact m20 (by assumption) (by assumption) | exact ga20 (by assumption) (by assumption) | exact w2 (by assumption) | exact w2 (min4 (by assumption)) | exact w2 (s46 (by assumption)) | exact min4 (by assumption) | exact s46 (by assumption) | exact min11 (by assumption) (by assumption)) | (unfold vp_in; decide) | ((with_reducible (repeat (first | assumption | (refine sf_lays ?_ ?_ ?_; (with_reducible first | assumption | exact m20 (by assumption) (by assumption) | exact ga20 (by assumption) (by assumption)); (with_reducible first | exact v11_0 | exact v11_1 | exact v11_6 | exact v11_7 | exact v11_8 | exact v11_9 | exact v11_10 | exact w2 (by assumption) | exact w2 (min4 (by assumption)))) | (refine sf_adds ?_ ?_; (with_reducible first | exact v8_0 | exact v8_1 | exact v8_2 | exact v8_3 | exact v8_4 | exact v8_5 | exact v8_6 | exact v8_7)) | (refine sf_u (by omega) ?_)))); done))) (cwV 2 hts gX6_worth_X6_goSaves rfl rfl rfl (by decide +kernel) ⟨Nat.le_of_ble_eq_true rfl, Nat.le_of_ble_eq_true rfl⟩) hP hK hX hS 0 5 md_0 rfl rfl hl.1 rfl (Nat.le_of_ble_eq_true rfl) dX6_worth_75 ⟨Nat.zero_le _, Nat.zero_le _⟩ ?_
                refine lv_iadd hx hb dX6_worth_78 ?_
                refine lv_goto (tgt := 88) hx hb dX6_worth_79 (by decide) ?_
                exact ro_ret hx hb hr (Eq.trans (if_neg c5) (Eq.trans (if_neg c12) (Eq.trans (if_neg c21) (Eq.trans (if_neg c34) (Eq.trans (if_neg c43) (Eq.trans (if_neg c50) (Eq.trans (if_pos c67) (rfl)))))))) dX6_worth_88 hlocks
            · refine lv_ldc hx hb hown wd1 dX6_worth_53 ?_
              refine lv_aload_n hx hb dX6_worth_55 rfl (lv_at hl 0 rfl) ?_
              refine lv_iload_n hx hb dX6_worth_56 rfl (lv_at hl 1 rfl) ?_
              refine lv_iload_n hx hb dX6_worth_57 rfl (lv_at hl 2 rfl) ?_
              refine roV CF (c_X6_goWorth l D cI cC cW t _ _ _ _ _ (by first | (with_reducible first | assumption | exact m20 (by assumption) (by assumption) | exact ga20 (by assumption) (by assumption) | exact w2 (by assumption) | exact w2 (min4 (by assumption)) | exact w2 (s46 (by assumption)) | exact min4 (by assumption) | exact s46 (by assumption) | exact min11 (by assumption) (by assumption)) | (unfold vp_in; decide) | ((with_reducible (repeat (first | assumption | (refine sf_lays ?_ ?_ ?_; (with_reducible first | assumption | exact m20 (by assumption) (by assumption) | exact ga20 (by assumption) (by assumption)); (with_reducible first | exact v11_0 | exact v11_1 | exact v11_6 | exact v11_7 | exact v11_8 | exact v11_9 | exact v11_10 | exact w2 (by assumption) | exact w2 (min4 (by assumption)))) | (refine sf_adds ?_ ?_; (with_reducible first | exact v8_0 | exact v8_1 | exact v8_2 | exact v8_3 | exact v8_4 | exact v8_5 | exact v8_6 | exact v8_7)) | (refine sf_u (by omega) ?_)))); done)) (by first | (with_reducible first | assumption | exact m20 (by assumption) (by assumption) | exact ga20 (by assumption) (by assumption) | exact w2 (by assumption) | exact w2 (min4 (by assumption)) | exact w2 (s46 (by assumption)) | exact min4 (by assumption) | exact s46 (by assumption) | exact min11 (by assumption) (by assumption)) | (unfold vp_in; decide) | ((with_reducible (repeat (first | assumption | (refine sf_lays ?_ ?_ ?_; (with_reducible first | assumption | exact m20 (by assumption) (by assumption) | exact ga20 (by assumption) (by assumption)); (with_reducible first | exact v11_0 | exact v11_1 | exact v11_6 | exact v11_7 | exact v11_8 | exact v11_9 | exact v11_10 | exact w2 (by assumption) | exact w2 (min4 (by assumption)))) | (refine sf_adds ?_ ?_; (with_reducible first | exact v8_0 | exact v8_1 | exact v8_2 | exact v8_3 | exact v8_4 | exact v8_5 | exact v8_6 | exact v8_7)) | (refine sf_u (by omega) ?_)))); done))) (cwV 2 hts gX6_worth_X6_goWorth rfl rfl rfl (by decide +kernel) ⟨Nat.le_of_ble_eq_true rfl, Nat.le_of_ble_eq_true rfl⟩) hP hK hX hS 0 5 md_0 rfl rfl hl.1 rfl (Nat.le_of_ble_eq_true rfl) dX6_worth_58 ⟨Nat.zero_le _, Nat.zero_le _⟩ ?_
              refine lv_iadd hx hb dX6_worth_61 ?_
              refine lv_goto (tgt := 88) hx hb dX6_worth_62 (by decide) ?_
              exact ro_ret hx hb hr (Eq.trans (if_neg c5) (Eq.trans (if_neg c12) (Eq.trans (if_neg c21) (Eq.trans (if_neg c34) (Eq.trans (if_neg c43) (Eq.trans (if_pos c50) (rfl))))))) dX6_worth_88 hlocks
          · refine lv_bipush (v := -2) hx hb dX6_worth_46 (by decide) ?_
            exact ro_ret hx hb hr (Eq.trans (if_neg c5) (Eq.trans (if_neg c12) (Eq.trans (if_neg c21) (Eq.trans (if_neg c34) (Eq.trans (if_pos c43) (rfl)))))) dX6_worth_48 hlocks
      · refine lv_iconst (v := -1) hx hb dX6_worth_24 (by decide) ?_
        exact ro_ret hx hb hr (Eq.trans (if_neg c5) (Eq.trans (if_neg c12) (Eq.trans (if_pos c21) (rfl)))) dX6_worth_25 hlocks

def sp_X6_weekly (N : Nat → Int32) (Z : Nat → Nat → Int32) (x1 : Int32) : Int32 :=
  if (sp_X6_in x1 (0 : Int32) (3 : Int32)) = 0 then ((-1 : Int32)) else ((sp_X6_weeklyOf N Z x1))
set_option maxHeartbeats 4000000 in
set_option maxRecDepth 100000 in
theorem c_X6_weekly (l : Launch) (D : va_G) (cI cC cW : ClassId) (t : Nat → Nat) (a : Nat → Nat) (N : Nat → Int32) (Z : Nat → Nat → Int32) (x1 : Int32) (hsf : sfN N) : Met l yX6_weekly wsX6_weekly ({ frames := 3, cells := 0, slots := 0, locals := 64 }) (va_Pc [.ref (a 0), .int x1] (roP D (tyL cI cC cW) (md cI a N Z) t)) (vp_Si (fun r => r = sp_X6_weekly N Z x1)) 0 0 (fun _ => False) := by
  refine Met.ofW (cc := cX6_weekly) (maxL := 2) (ret := (some .int)) (by decide) rfl ?_
  intro p e s m args below meth c s₁ B hml hv
  obtain ⟨rfl, hP, hK, hX⟩ := hv
  have hx := B.exec
  have hb := B.bytes
  have hr := B.returns
  have hts := atoms_spec (ws := wsX6_weekly) B.pre
  have hown : s.vm.findClass RX6 = some m.cls := findClass_of_methodNamed B.named
  have hlocks := B.notSynchronized
  have hS : va_S (fun _ => False) s.heap s.heap [] := va_S.rf
  have CF : CallFix p m c cX6_weekly 2 s [.ref (a 0), .int x1].toArray wsX6_weekly RX6 := ⟨hx, hb, hml, hown, hts⟩
  have hl := lv_entry ([.ref (a 0), .int x1]) (n := 2) (Nat.le_of_ble_eq_true rfl)
  rw [lg_entry_eq]
  generalize (lg_sl ([.ref (a 0), .int x1]) ++ List.replicate (2 - (lg_sl ([.ref (a 0), .int x1])).length) Slot.unset).toArray = ls at hl ⊢
  have hl : lv_has ls 2 [(0, .ref (a 0)), (1, .int x1)] := hl
  refine lv_iload_n hx hb dX6_weekly_0 rfl (lv_at hl 1 rfl) ?_
  refine lv_iconst (v := 0) hx hb dX6_weekly_1 (by decide) ?_
  refine lv_iconst (v := 3) hx hb dX6_weekly_2 (by decide) ?_
  refine roS CF (c_X6_in l D cI cC cW t _ _ _ ) (va_cwS 3 hts gX6_weekly_X6_in rfl rfl rfl (by decide +kernel) ⟨Nat.le_of_ble_eq_true rfl, Nat.le_of_ble_eq_true rfl⟩) vP_nil hK hX hS rfl hl.1 rfl (Nat.le_of_ble_eq_true rfl) dX6_weekly_3 ⟨Nat.zero_le _, Nat.zero_le _⟩ ?_
  refine lv_if_eq (tgt := 17) hx hb dX6_weekly_6 (by decide) (fun c6 => ?_) (fun c6 => ?_)
  · refine lv_iconst (v := -1) hx hb dX6_weekly_17 (by decide) ?_
    exact ro_ret hx hb hr (Eq.trans (if_pos c6) (rfl)) dX6_weekly_18 hlocks
  · refine lv_aload_n hx hb dX6_weekly_9 rfl (lv_at hl 0 rfl) ?_
    refine lv_iload_n hx hb dX6_weekly_10 rfl (lv_at hl 1 rfl) ?_
    refine roV CF (c_X6_weeklyOf l D cI cC cW t _ _ _ _ (by first | (with_reducible first | assumption | exact m20 (by assumption) (by assumption) | exact ga20 (by assumption) (by assumption) | exact w2 (by assumption) | exact w2 (min4 (by assumption)) | exact w2 (s46 (by assumption)) | exact min4 (by assumption) | exact s46 (by assumption) | exact min11 (by assumption) (by assumption)) | (unfold vp_in; decide) | ((with_reducible (repeat (first | assumption | (refine sf_lays ?_ ?_ ?_; (with_reducible first | assumption | exact m20 (by assumption) (by assumption) | exact ga20 (by assumption) (by assumption)); (with_reducible first | exact v11_0 | exact v11_1 | exact v11_6 | exact v11_7 | exact v11_8 | exact v11_9 | exact v11_10 | exact w2 (by assumption) | exact w2 (min4 (by assumption)))) | (refine sf_adds ?_ ?_; (with_reducible first | exact v8_0 | exact v8_1 | exact v8_2 | exact v8_3 | exact v8_4 | exact v8_5 | exact v8_6 | exact v8_7)) | (refine sf_u (by omega) ?_)))); done)) (by first | (with_reducible first | assumption | exact m20 (by assumption) (by assumption) | exact ga20 (by assumption) (by assumption) | exact w2 (by assumption) | exact w2 (min4 (by assumption)) | exact w2 (s46 (by assumption)) | exact min4 (by assumption) | exact s46 (by assumption) | exact min11 (by assumption) (by assumption)) | (unfold vp_in; decide) | ((with_reducible (repeat (first | assumption | (refine sf_lays ?_ ?_ ?_; (with_reducible first | assumption | exact m20 (by assumption) (by assumption) | exact ga20 (by assumption) (by assumption)); (with_reducible first | exact v11_0 | exact v11_1 | exact v11_6 | exact v11_7 | exact v11_8 | exact v11_9 | exact v11_10 | exact w2 (by assumption) | exact w2 (min4 (by assumption)))) | (refine sf_adds ?_ ?_; (with_reducible first | exact v8_0 | exact v8_1 | exact v8_2 | exact v8_3 | exact v8_4 | exact v8_5 | exact v8_6 | exact v8_7)) | (refine sf_u (by omega) ?_)))); done))) (cwV 1 hts gX6_weekly_X6_weeklyOf rfl rfl rfl (by decide +kernel) ⟨Nat.le_of_ble_eq_true rfl, Nat.le_of_ble_eq_true rfl⟩) hP hK hX hS 0 5 md_0 rfl rfl hl.1 rfl (Nat.le_of_ble_eq_true rfl) dX6_weekly_11 ⟨Nat.zero_le _, Nat.zero_le _⟩ ?_
    refine lv_goto (tgt := 18) hx hb dX6_weekly_14 (by decide) ?_
    exact ro_ret hx hb hr (Eq.trans (if_neg c6) (rfl)) dX6_weekly_18 hlocks

def sp_X6_pick (N : Nat → Int32) (Z : Nat → Nat → Int32) (x1 x2 : Int32) : Int32 × ((Nat → Int32) × (Nat → Nat → Int32)) :=
  if (sp_X6_isGood N Z x1) = 0 then (((-1 : Int32), (N, Z))) else (if (sp_X6_in x2 (1 : Int32) (200 : Int32)) = 0 then (((-1 : Int32), (N, Z))) else (if (sp_X6_canPick N Z x1 x2) = 0 then (((-2 : Int32), (N, Z))) else (let k34_1 : Nat → Nat → Int32 := sp_X6_records N Z; let k40_2 : Int32 × (Nat → Int32) := sp_X6_picks N k34_1 x1 x2; let N3 : Nat → Int32 := k40_2.2; (k40_2.1, (N3, k34_1)))))
set_option maxHeartbeats 4000000 in
set_option maxRecDepth 100000 in
theorem c_X6_pick (l : Launch) (D : va_G) (cI cC cW : ClassId) (t : Nat → Nat) (a : Nat → Nat) (sz : Nat) (N : Nat → Int32) (Z : Nat → Nat → Int32) (x1 x2 : Int32) (hsf : sfN N) (hps : psZ Z) (hld : ¬ N 3 = 0) : Met l yX6_pick wsX6_pick ({ frames := 4, cells := 0, slots := 0, locals := 90 }) (va_Pc [.ref (a 0), .int x1, .int x2] (rwP D (tyL cI cC cW) (md cI a N Z) t sz)) (va_Qi (fun (r : Int32) (u : ((Nat → Int32) × (Nat → Nat → Int32))) => (r, u) = sp_X6_pick N Z x1 x2) (fun u => rwB D (va_A (md cI a N Z) sz) (md cI a u.1 u.2)) (va_A (md cI a N Z) sz)) 0 0 (va_A (md cI a N Z) sz) := by
  refine Met.ofW (cc := cX6_pick) (maxL := 3) (ret := (some .int)) (by decide) rfl ?_
  intro p e s m args below meth c s₁ B hml hv
  obtain ⟨rfl, hsz, hP, hK, hD0, hX⟩ := hv
  have hx := B.exec
  have hb := B.bytes
  have hr := B.returns
  have hts := atoms_spec (ws := wsX6_pick) B.pre
  have hown : s.vm.findClass RX6 = some m.cls := findClass_of_methodNamed B.named
  have hlocks := B.notSynchronized
  subst hsz
  have hD := hD0.self (sz := s.heap.size)
  generalize hAe : va_A (md cI a N Z) s.heap.size = A at hD hX ⊢
  have hA : ∀ q : Nat, s.heap.size ≤ q → A q := fun q h => by rw [← hAe]; exact Or.inr h
  have hS : va_S A s.heap s.heap [] := va_S.rf
  have CF : CallFix p m c cX6_pick 3 s [.ref (a 0), .int x1, .int x2].toArray wsX6_pick RX6 := ⟨hx, hb, hml, hown, hts⟩
  have hl := lv_entry ([.ref (a 0), .int x1, .int x2]) (n := 3) (Nat.le_of_ble_eq_true rfl)
  rw [lg_entry_eq]
  generalize (lg_sl ([.ref (a 0), .int x1, .int x2]) ++ List.replicate (3 - (lg_sl ([.ref (a 0), .int x1, .int x2])).length) Slot.unset).toArray = ls at hl ⊢
  have hl : lv_has ls 3 [(0, .ref (a 0)), (1, .int x1), (2, .int x2)] := hl
  refine lv_aload_n hx hb dX6_pick_0 rfl (lv_at hl 0 rfl) ?_
  refine lv_iload_n hx hb dX6_pick_1 rfl (lv_at hl 1 rfl) ?_
  refine roV CF (c_X6_isGood l D cI cC cW t _ _ _ _ ) (cwV 1 hts gX6_pick_X6_isGood rfl rfl rfl (by decide +kernel) ⟨Nat.le_of_ble_eq_true rfl, Nat.le_of_ble_eq_true rfl⟩) hP hK hX hS 0 5 md_0 rfl rfl hl.1 rfl (Nat.le_of_ble_eq_true rfl) dX6_pick_2 ⟨Nat.zero_le _, Nat.zero_le _⟩ ?_
  refine lv_if_eq (tgt := 19) hx hb dX6_pick_5 (by decide) (fun c5 => ?_) (fun c5 => ?_)
  · refine lv_iconst (v := -1) hx hb dX6_pick_19 (by decide) ?_
    exact rwM_ret hx hb hr hP hD hS (Eq.trans (if_pos c5) (rfl)) dX6_pick_20 hlocks
  · refine lv_iload_n hx hb dX6_pick_8 rfl (lv_at hl 2 rfl) ?_
    refine lv_iconst (v := 1) hx hb dX6_pick_9 (by decide) ?_
    refine lv_sipush (v := 200) hx hb dX6_pick_10 (by decide) ?_
    refine roS CF (c_X6_in l D cI cC cW t _ _ _ ) (va_cwS 3 hts gX6_pick_X6_in rfl rfl rfl (by decide +kernel) ⟨Nat.le_of_ble_eq_true rfl, Nat.le_of_ble_eq_true rfl⟩) vP_nil hK hX hS rfl hl.1 rfl (Nat.le_of_ble_eq_true rfl) dX6_pick_13 ⟨Nat.zero_le _, Nat.zero_le _⟩ ?_
    refine lv_if_ne (tgt := 21) hx hb dX6_pick_16 (by decide) (fun c16 => ?_) (fun c16 => ?_)
    · refine lv_aload_n hx hb dX6_pick_21 rfl (lv_at hl 0 rfl) ?_
      refine lv_iload_n hx hb dX6_pick_22 rfl (lv_at hl 1 rfl) ?_
      refine lv_iload_n hx hb dX6_pick_23 rfl (lv_at hl 2 rfl) ?_
      refine roV CF (c_X6_canPick l D cI cC cW t _ _ _ _ _ (by first | (with_reducible first | assumption | exact m20 (by assumption) (by assumption) | exact ga20 (by assumption) (by assumption) | exact w2 (by assumption) | exact w2 (min4 (by assumption)) | exact w2 (s46 (by assumption)) | exact min4 (by assumption) | exact s46 (by assumption) | exact min11 (by assumption) (by assumption)) | (unfold vp_in; decide) | ((with_reducible (repeat (first | assumption | (refine sf_lays ?_ ?_ ?_; (with_reducible first | assumption | exact m20 (by assumption) (by assumption) | exact ga20 (by assumption) (by assumption)); (with_reducible first | exact v11_0 | exact v11_1 | exact v11_6 | exact v11_7 | exact v11_8 | exact v11_9 | exact v11_10 | exact w2 (by assumption) | exact w2 (min4 (by assumption)))) | (refine sf_adds ?_ ?_; (with_reducible first | exact v8_0 | exact v8_1 | exact v8_2 | exact v8_3 | exact v8_4 | exact v8_5 | exact v8_6 | exact v8_7)) | (refine sf_u (by omega) ?_)))); done))) (cwV 2 hts gX6_pick_X6_canPick rfl rfl rfl (by decide +kernel) ⟨Nat.le_of_ble_eq_true rfl, Nat.le_of_ble_eq_true rfl⟩) hP hK hX hS 0 5 md_0 rfl rfl hl.1 rfl (Nat.le_of_ble_eq_true rfl) dX6_pick_24 ⟨Nat.zero_le _, Nat.zero_le _⟩ ?_
      refine lv_if_ne (tgt := 33) hx hb dX6_pick_27 (by decide) (fun c27 => ?_) (fun c27 => ?_)
      · refine lv_aload_n hx hb dX6_pick_33 rfl (lv_at hl 0 rfl) ?_
        refine rwVv CF (c_X6_records l D cI cC cW t _ _ _ _  (by first | (with_reducible first | assumption | exact m20 (by assumption) (by assumption) | exact ga20 (by assumption) (by assumption) | exact w2 (by assumption) | exact w2 (min4 (by assumption)) | exact w2 (s46 (by assumption)) | exact min4 (by assumption) | exact s46 (by assumption) | exact min11 (by assumption) (by assumption)) | (unfold vp_in; decide) | ((with_reducible (repeat (first | assumption | (refine sf_lays ?_ ?_ ?_; (with_reducible first | assumption | exact m20 (by assumption) (by assumption) | exact ga20 (by assumption) (by assumption)); (with_reducible first | exact v11_0 | exact v11_1 | exact v11_6 | exact v11_7 | exact v11_8 | exact v11_9 | exact v11_10 | exact w2 (by assumption) | exact w2 (min4 (by assumption)))) | (refine sf_adds ?_ ?_; (with_reducible first | exact v8_0 | exact v8_1 | exact v8_2 | exact v8_3 | exact v8_4 | exact v8_5 | exact v8_6 | exact v8_7)) | (refine sf_u (by omega) ?_)))); done))) (cwV 0 hts gX6_pick_X6_records rfl rfl rfl (by decide +kernel) ⟨Nat.le_of_ble_eq_true rfl, Nat.le_of_ble_eq_true rfl⟩) hP hD hK hX hS hA 0 5 md_0 rfl rfl hl.1 rfl (Nat.le_of_ble_eq_true rfl) dX6_pick_34 ⟨Nat.zero_le _, Nat.zero_le _⟩ (fun H locs hP hD hS => ?_)
        refine lv_aload_n hx hb dX6_pick_37 rfl (lv_at hl 0 rfl) ?_
        refine lv_iload_n hx hb dX6_pick_38 rfl (lv_at hl 1 rfl) ?_
        refine lv_iload_n hx hb dX6_pick_39 rfl (lv_at hl 2 rfl) ?_
        refine rwV CF (c_X6_picks l D cI cC cW t _ _ _ _ _ _ (by first | (with_reducible first | assumption | exact m20 (by assumption) (by assumption) | exact ga20 (by assumption) (by assumption) | exact w2 (by assumption) | exact w2 (min4 (by assumption)) | exact w2 (s46 (by assumption)) | exact min4 (by assumption) | exact s46 (by assumption) | exact min11 (by assumption) (by assumption)) | (unfold vp_in; decide) | ((with_reducible (repeat (first | assumption | (refine sf_lays ?_ ?_ ?_; (with_reducible first | assumption | exact m20 (by assumption) (by assumption) | exact ga20 (by assumption) (by assumption)); (with_reducible first | exact v11_0 | exact v11_1 | exact v11_6 | exact v11_7 | exact v11_8 | exact v11_9 | exact v11_10 | exact w2 (by assumption) | exact w2 (min4 (by assumption)))) | (refine sf_adds ?_ ?_; (with_reducible first | exact v8_0 | exact v8_1 | exact v8_2 | exact v8_3 | exact v8_4 | exact v8_5 | exact v8_6 | exact v8_7)) | (refine sf_u (by omega) ?_)))); done)) (by first | (with_reducible first | assumption | exact m20 (by assumption) (by assumption) | exact ga20 (by assumption) (by assumption) | exact w2 (by assumption) | exact w2 (min4 (by assumption)) | exact w2 (s46 (by assumption)) | exact min4 (by assumption) | exact s46 (by assumption) | exact min11 (by assumption) (by assumption)) | (unfold vp_in; decide) | ((with_reducible (repeat (first | assumption | (refine sf_lays ?_ ?_ ?_; (with_reducible first | assumption | exact m20 (by assumption) (by assumption) | exact ga20 (by assumption) (by assumption)); (with_reducible first | exact v11_0 | exact v11_1 | exact v11_6 | exact v11_7 | exact v11_8 | exact v11_9 | exact v11_10 | exact w2 (by assumption) | exact w2 (min4 (by assumption)))) | (refine sf_adds ?_ ?_; (with_reducible first | exact v8_0 | exact v8_1 | exact v8_2 | exact v8_3 | exact v8_4 | exact v8_5 | exact v8_6 | exact v8_7)) | (refine sf_u (by omega) ?_)))); done))) (cwV 2 hts gX6_pick_X6_picks rfl rfl rfl (by decide +kernel) ⟨Nat.le_of_ble_eq_true rfl, Nat.le_of_ble_eq_true rfl⟩) hP hD hK hX hS hA 0 5 md_0 rfl rfl hl.1 rfl (Nat.le_of_ble_eq_true rfl) dX6_pick_40 ⟨Nat.zero_le _, Nat.zero_le _⟩ (fun H locs hP hD hS => ?_)
        exact rwM_ret hx hb hr hP hD hS (Eq.trans (if_neg c5) (Eq.trans (if_neg c16) (Eq.trans (if_neg c27) (rfl)))) dX6_pick_43 hlocks
      · refine lv_bipush (v := -2) hx hb dX6_pick_30 (by decide) ?_
        exact rwM_ret hx hb hr hP hD hS (Eq.trans (if_neg c5) (Eq.trans (if_neg c16) (Eq.trans (if_pos c27) (rfl)))) dX6_pick_32 hlocks
    · refine lv_iconst (v := -1) hx hb dX6_pick_19 (by decide) ?_
      exact rwM_ret hx hb hr hP hD hS (Eq.trans (if_neg c5) (Eq.trans (if_pos c16) (rfl))) dX6_pick_20 hlocks

def sp_X6_refill (N : Nat → Int32) (Z : Nat → Nat → Int32) (x1 : Int32) : Int32 × ((Nat → Int32) × (Nat → Nat → Int32)) :=
  if (sp_X6_isGood N Z x1) = 0 then (((-1 : Int32), (N, Z))) else (if (sp_X6_canRefill N Z x1) = 0 then (((-2 : Int32), (N, Z))) else (let k22_1 : Nat → Nat → Int32 := sp_X6_records N Z; let k40_2 : Int32 × (Nat → Int32) := sp_X6_brings N k22_1 x1 (sp_X6_room N k22_1 x1); let N3 : Nat → Int32 := k40_2.2; (((sp_X6_of N3 k22_1 x1 (7 : Int32)) - (sp_X6_of N k22_1 x1 (7 : Int32))), (N3, k22_1))))
set_option maxHeartbeats 4000000 in
set_option maxRecDepth 100000 in
theorem c_X6_refill (l : Launch) (D : va_G) (cI cC cW : ClassId) (t : Nat → Nat) (a : Nat → Nat) (sz : Nat) (N : Nat → Int32) (Z : Nat → Nat → Int32) (x1 : Int32) (hsf : sfN N) (hps : psZ Z) (hld : ¬ N 3 = 0) : Met l yX6_refill wsX6_refill ({ frames := 3, cells := 0, slots := 0, locals := 66 }) (va_Pc [.ref (a 0), .int x1] (rwP D (tyL cI cC cW) (md cI a N Z) t sz)) (va_Qi (fun (r : Int32) (u : ((Nat → Int32) × (Nat → Nat → Int32))) => (r, u) = sp_X6_refill N Z x1) (fun u => rwB D (va_A (md cI a N Z) sz) (md cI a u.1 u.2)) (va_A (md cI a N Z) sz)) 0 0 (va_A (md cI a N Z) sz) := by
  refine Met.ofW (cc := cX6_refill) (maxL := 4) (ret := (some .int)) (by decide) rfl ?_
  intro p e s m args below meth c s₁ B hml hv
  obtain ⟨rfl, hsz, hP, hK, hD0, hX⟩ := hv
  have hx := B.exec
  have hb := B.bytes
  have hr := B.returns
  have hts := atoms_spec (ws := wsX6_refill) B.pre
  have hown : s.vm.findClass RX6 = some m.cls := findClass_of_methodNamed B.named
  have hlocks := B.notSynchronized
  subst hsz
  have hD := hD0.self (sz := s.heap.size)
  generalize hAe : va_A (md cI a N Z) s.heap.size = A at hD hX ⊢
  have hA : ∀ q : Nat, s.heap.size ≤ q → A q := fun q h => by rw [← hAe]; exact Or.inr h
  have hS : va_S A s.heap s.heap [] := va_S.rf
  have CF : CallFix p m c cX6_refill 4 s [.ref (a 0), .int x1].toArray wsX6_refill RX6 := ⟨hx, hb, hml, hown, hts⟩
  have hl := lv_entry ([.ref (a 0), .int x1]) (n := 4) (Nat.le_of_ble_eq_true rfl)
  rw [lg_entry_eq]
  generalize (lg_sl ([.ref (a 0), .int x1]) ++ List.replicate (4 - (lg_sl ([.ref (a 0), .int x1])).length) Slot.unset).toArray = ls at hl ⊢
  have hl : lv_has ls 4 [(0, .ref (a 0)), (1, .int x1)] := hl
  refine lv_aload_n hx hb dX6_refill_0 rfl (lv_at hl 0 rfl) ?_
  refine lv_iload_n hx hb dX6_refill_1 rfl (lv_at hl 1 rfl) ?_
  refine roV CF (c_X6_isGood l D cI cC cW t _ _ _ _ ) (cwV 1 hts gX6_refill_X6_isGood rfl rfl rfl (by decide +kernel) ⟨Nat.le_of_ble_eq_true rfl, Nat.le_of_ble_eq_true rfl⟩) hP hK hX hS 0 5 md_0 rfl rfl hl.1 rfl (Nat.le_of_ble_eq_true rfl) dX6_refill_2 ⟨Nat.zero_le _, Nat.zero_le _⟩ ?_
  refine lv_if_ne (tgt := 10) hx hb dX6_refill_5 (by decide) (fun c5 => ?_) (fun c5 => ?_)
  · refine lv_aload_n hx hb dX6_refill_10 rfl (lv_at hl 0 rfl) ?_
    refine lv_iload_n hx hb dX6_refill_11 rfl (lv_at hl 1 rfl) ?_
    refine roV CF (c_X6_canRefill l D cI cC cW t _ _ _ _ (by first | (with_reducible first | assumption | exact m20 (by assumption) (by assumption) | exact ga20 (by assumption) (by assumption) | exact w2 (by assumption) | exact w2 (min4 (by assumption)) | exact w2 (s46 (by assumption)) | exact min4 (by assumption) | exact s46 (by assumption) | exact min11 (by assumption) (by assumption)) | (unfold vp_in; decide) | ((with_reducible (repeat (first | assumption | (refine sf_lays ?_ ?_ ?_; (with_reducible first | assumption | exact m20 (by assumption) (by assumption) | exact ga20 (by assumption) (by assumption)); (with_reducible first | exact v11_0 | exact v11_1 | exact v11_6 | exact v11_7 | exact v11_8 | exact v11_9 | exact v11_10 | exact w2 (by assumption) | exact w2 (min4 (by assumption)))) | (refine sf_adds ?_ ?_; (with_reducible first | exact v8_0 | exact v8_1 | exact v8_2 | exact v8_3 | exact v8_4 | exact v8_5 | exact v8_6 | exact v8_7)) | (refine sf_u (by omega) ?_)))); done))) (cwV 1 hts gX6_refill_X6_canRefill rfl rfl rfl (by decide +kernel) ⟨Nat.le_of_ble_eq_true rfl, Nat.le_of_ble_eq_true rfl⟩) hP hK hX hS 0 5 md_0 rfl rfl hl.1 rfl (Nat.le_of_ble_eq_true rfl) dX6_refill_12 ⟨Nat.zero_le _, Nat.zero_le _⟩ ?_
    refine lv_if_ne (tgt := 21) hx hb dX6_refill_15 (by decide) (fun c15 => ?_) (fun c15 => ?_)
    · refine lv_aload_n hx hb dX6_refill_21 rfl (lv_at hl 0 rfl) ?_
      refine rwVv CF (c_X6_records l D cI cC cW t _ _ _ _  (by first | (with_reducible first | assumption | exact m20 (by assumption) (by assumption) | exact ga20 (by assumption) (by assumption) | exact w2 (by assumption) | exact w2 (min4 (by assumption)) | exact w2 (s46 (by assumption)) | exact min4 (by assumption) | exact s46 (by assumption) | exact min11 (by assumption) (by assumption)) | (unfold vp_in; decide) | ((with_reducible (repeat (first | assumption | (refine sf_lays ?_ ?_ ?_; (with_reducible first | assumption | exact m20 (by assumption) (by assumption) | exact ga20 (by assumption) (by assumption)); (with_reducible first | exact v11_0 | exact v11_1 | exact v11_6 | exact v11_7 | exact v11_8 | exact v11_9 | exact v11_10 | exact w2 (by assumption) | exact w2 (min4 (by assumption)))) | (refine sf_adds ?_ ?_; (with_reducible first | exact v8_0 | exact v8_1 | exact v8_2 | exact v8_3 | exact v8_4 | exact v8_5 | exact v8_6 | exact v8_7)) | (refine sf_u (by omega) ?_)))); done))) (cwV 0 hts gX6_refill_X6_records rfl rfl rfl (by decide +kernel) ⟨Nat.le_of_ble_eq_true rfl, Nat.le_of_ble_eq_true rfl⟩) hP hD hK hX hS hA 0 5 md_0 rfl rfl hl.1 rfl (Nat.le_of_ble_eq_true rfl) dX6_refill_22 ⟨Nat.zero_le _, Nat.zero_le _⟩ (fun H locs hP hD hS => ?_)
      refine lv_aload_n hx hb dX6_refill_25 rfl (lv_at hl 0 rfl) ?_
      refine lv_iload_n hx hb dX6_refill_26 rfl (lv_at hl 1 rfl) ?_
      refine lv_bipush (v := 7) hx hb dX6_refill_27 (by decide) ?_
      refine roV CF (c_X6_of l D cI cC cW t _ _ _ _ _ (by first | (with_reducible first | assumption | exact m20 (by assumption) (by assumption) | exact ga20 (by assumption) (by assumption) | exact w2 (by assumption) | exact w2 (min4 (by assumption)) | exact w2 (s46 (by assumption)) | exact min4 (by assumption) | exact s46 (by assumption) | exact min11 (by assumption) (by assumption)) | (unfold vp_in; decide) | ((with_reducible (repeat (first | assumption | (refine sf_lays ?_ ?_ ?_; (with_reducible first | assumption | exact m20 (by assumption) (by assumption) | exact ga20 (by assumption) (by assumption)); (with_reducible first | exact v11_0 | exact v11_1 | exact v11_6 | exact v11_7 | exact v11_8 | exact v11_9 | exact v11_10 | exact w2 (by assumption) | exact w2 (min4 (by assumption)))) | (refine sf_adds ?_ ?_; (with_reducible first | exact v8_0 | exact v8_1 | exact v8_2 | exact v8_3 | exact v8_4 | exact v8_5 | exact v8_6 | exact v8_7)) | (refine sf_u (by omega) ?_)))); done)) (by first | (with_reducible first | assumption | exact m20 (by assumption) (by assumption) | exact ga20 (by assumption) (by assumption) | exact w2 (by assumption) | exact w2 (min4 (by assumption)) | exact w2 (s46 (by assumption)) | exact min4 (by assumption) | exact s46 (by assumption) | exact min11 (by assumption) (by assumption)) | (unfold vp_in; decide) | ((with_reducible (repeat (first | assumption | (refine sf_lays ?_ ?_ ?_; (with_reducible first | assumption | exact m20 (by assumption) (by assumption) | exact ga20 (by assumption) (by assumption)); (with_reducible first | exact v11_0 | exact v11_1 | exact v11_6 | exact v11_7 | exact v11_8 | exact v11_9 | exact v11_10 | exact w2 (by assumption) | exact w2 (min4 (by assumption)))) | (refine sf_adds ?_ ?_; (with_reducible first | exact v8_0 | exact v8_1 | exact v8_2 | exact v8_3 | exact v8_4 | exact v8_5 | exact v8_6 | exact v8_7)) | (refine sf_u (by omega) ?_)))); done))) (cwV 2 hts gX6_refill_X6_of rfl rfl rfl (by decide +kernel) ⟨Nat.le_of_ble_eq_true rfl, Nat.le_of_ble_eq_true rfl⟩) hP hK hX hS 0 5 md_0 rfl rfl hl.1 rfl (Nat.le_of_ble_eq_true rfl) dX6_refill_29 ⟨Nat.zero_le _, Nat.zero_le _⟩ ?_
      refine lv_istore_n (lv' := [(2, .int _), (0, .ref _), (1, .int _)]) hx hb dX6_refill_32 rfl hl (by decide) rfl (fun ls hl => ?_)
      refine lv_aload_n hx hb dX6_refill_33 rfl (lv_at hl 1 rfl) ?_
      refine lv_iload_n hx hb dX6_refill_34 rfl (lv_at hl 2 rfl) ?_
      refine lv_aload_n hx hb dX6_refill_35 rfl (lv_at hl 1 rfl) ?_
      refine lv_iload_n hx hb dX6_refill_36 rfl (lv_at hl 2 rfl) ?_
      refine roV CF (c_X6_room l D cI cC cW t _ _ _ _ (by first | (with_reducible first | assumption | exact m20 (by assumption) (by assumption) | exact ga20 (by assumption) (by assumption) | exact w2 (by assumption) | exact w2 (min4 (by assumption)) | exact w2 (s46 (by assumption)) | exact min4 (by assumption) | exact s46 (by assumption) | exact min11 (by assumption) (by assumption)) | (unfold vp_in; decide) | ((with_reducible (repeat (first | assumption | (refine sf_lays ?_ ?_ ?_; (with_reducible first | assumption | exact m20 (by assumption) (by assumption) | exact ga20 (by assumption) (by assumption)); (with_reducible first | exact v11_0 | exact v11_1 | exact v11_6 | exact v11_7 | exact v11_8 | exact v11_9 | exact v11_10 | exact w2 (by assumption) | exact w2 (min4 (by assumption)))) | (refine sf_adds ?_ ?_; (with_reducible first | exact v8_0 | exact v8_1 | exact v8_2 | exact v8_3 | exact v8_4 | exact v8_5 | exact v8_6 | exact v8_7)) | (refine sf_u (by omega) ?_)))); done))) (cwV 1 hts gX6_refill_X6_room rfl rfl rfl (by decide +kernel) ⟨Nat.le_of_ble_eq_true rfl, Nat.le_of_ble_eq_true rfl⟩) hP hK hX hS 0 5 md_0 rfl rfl hl.1 rfl (Nat.le_of_ble_eq_true rfl) dX6_refill_37 ⟨Nat.zero_le _, Nat.zero_le _⟩ ?_
      refine rwV CF (c_X6_brings l D cI cC cW t _ _ _ _ _ _ (by first | (with_reducible first | assumption | exact m20 (by assumption) (by assumption) | exact ga20 (by assumption) (by assumption) | exact w2 (by assumption) | exact w2 (min4 (by assumption)) | exact w2 (s46 (by assumption)) | exact min4 (by assumption) | exact s46 (by assumption) | exact min11 (by assumption) (by assumption)) | (unfold vp_in; decide) | ((with_reducible (repeat (first | assumption | (refine sf_lays ?_ ?_ ?_; (with_reducible first | assumption | exact m20 (by assumption) (by assumption) | exact ga20 (by assumption) (by assumption)); (with_reducible first | exact v11_0 | exact v11_1 | exact v11_6 | exact v11_7 | exact v11_8 | exact v11_9 | exact v11_10 | exact w2 (by assumption) | exact w2 (min4 (by assumption)))) | (refine sf_adds ?_ ?_; (with_reducible first | exact v8_0 | exact v8_1 | exact v8_2 | exact v8_3 | exact v8_4 | exact v8_5 | exact v8_6 | exact v8_7)) | (refine sf_u (by omega) ?_)))); done)) (by first | (with_reducible first | assumption | exact m20 (by assumption) (by assumption) | exact ga20 (by assumption) (by assumption) | exact w2 (by assumption) | exact w2 (min4 (by assumption)) | exact w2 (s46 (by assumption)) | exact min4 (by assumption) | exact s46 (by assumption) | exact min11 (by assumption) (by assumption)) | (unfold vp_in; decide) | ((with_reducible (repeat (first | assumption | (refine sf_lays ?_ ?_ ?_; (with_reducible first | assumption | exact m20 (by assumption) (by assumption) | exact ga20 (by assumption) (by assumption)); (with_reducible first | exact v11_0 | exact v11_1 | exact v11_6 | exact v11_7 | exact v11_8 | exact v11_9 | exact v11_10 | exact w2 (by assumption) | exact w2 (min4 (by assumption)))) | (refine sf_adds ?_ ?_; (with_reducible first | exact v8_0 | exact v8_1 | exact v8_2 | exact v8_3 | exact v8_4 | exact v8_5 | exact v8_6 | exact v8_7)) | (refine sf_u (by omega) ?_)))); done))) (cwV 2 hts gX6_refill_X6_brings rfl rfl rfl (by decide +kernel) ⟨Nat.le_of_ble_eq_true rfl, Nat.le_of_ble_eq_true rfl⟩) hP hD hK hX hS hA 0 5 md_0 rfl rfl hl.1 rfl (Nat.le_of_ble_eq_true rfl) dX6_refill_40 ⟨Nat.zero_le _, Nat.zero_le _⟩ (fun H locs hP hD hS => ?_)
      refine lv_istore_n (lv' := [(3, .int _), (2, .int _), (0, .ref _), (1, .int _)]) hx hb dX6_refill_43 rfl hl (by decide) rfl (fun ls hl => ?_)
      refine lv_aload_n hx hb dX6_refill_44 rfl (lv_at hl 2 rfl) ?_
      refine lv_iload_n hx hb dX6_refill_45 rfl (lv_at hl 3 rfl) ?_
      refine lv_bipush (v := 7) hx hb dX6_refill_46 (by decide) ?_
      refine roV CF (c_X6_of l D cI cC cW t _ _ _ _ _ (by first | (with_reducible first | assumption | exact m20 (by assumption) (by assumption) | exact ga20 (by assumption) (by assumption) | exact w2 (by assumption) | exact w2 (min4 (by assumption)) | exact w2 (s46 (by assumption)) | exact min4 (by assumption) | exact s46 (by assumption) | exact min11 (by assumption) (by assumption)) | (unfold vp_in; decide) | ((with_reducible (repeat (first | assumption | (refine sf_lays ?_ ?_ ?_; (with_reducible first | assumption | exact m20 (by assumption) (by assumption) | exact ga20 (by assumption) (by assumption)); (with_reducible first | exact v11_0 | exact v11_1 | exact v11_6 | exact v11_7 | exact v11_8 | exact v11_9 | exact v11_10 | exact w2 (by assumption) | exact w2 (min4 (by assumption)))) | (refine sf_adds ?_ ?_; (with_reducible first | exact v8_0 | exact v8_1 | exact v8_2 | exact v8_3 | exact v8_4 | exact v8_5 | exact v8_6 | exact v8_7)) | (refine sf_u (by omega) ?_)))); done)) (by first | (with_reducible first | assumption | exact m20 (by assumption) (by assumption) | exact ga20 (by assumption) (by assumption) | exact w2 (by assumption) | exact w2 (min4 (by assumption)) | exact w2 (s46 (by assumption)) | exact min4 (by assumption) | exact s46 (by assumption) | exact min11 (by assumption) (by assumption)) | (unfold vp_in; decide) | ((with_reducible (repeat (first | assumption | (refine sf_lays ?_ ?_ ?_; (with_reducible first | assumption | exact m20 (by assumption) (by assumption) | exact ga20 (by assumption) (by assumption)); (with_reducible first | exact v11_0 | exact v11_1 | exact v11_6 | exact v11_7 | exact v11_8 | exact v11_9 | exact v11_10 | exact w2 (by assumption) | exact w2 (min4 (by assumption)))) | (refine sf_adds ?_ ?_; (with_reducible first | exact v8_0 | exact v8_1 | exact v8_2 | exact v8_3 | exact v8_4 | exact v8_5 | exact v8_6 | exact v8_7)) | (refine sf_u (by omega) ?_)))); done))) (cwV 2 hts gX6_refill_X6_of rfl rfl rfl (by decide +kernel) ⟨Nat.le_of_ble_eq_true rfl, Nat.le_of_ble_eq_true rfl⟩) hP hK hX hS 0 5 md_0 rfl rfl hl.1 rfl (Nat.le_of_ble_eq_true rfl) dX6_refill_48 ⟨Nat.zero_le _, Nat.zero_le _⟩ ?_
      refine lv_iload_n hx hb dX6_refill_51 rfl (lv_at hl 1 rfl) ?_
      refine lv_isub hx hb dX6_refill_52 ?_
      exact rwM_ret hx hb hr hP hD hS (Eq.trans (if_neg c5) (Eq.trans (if_neg c15) (rfl))) dX6_refill_53 hlocks
    · refine lv_bipush (v := -2) hx hb dX6_refill_18 (by decide) ?_
      exact rwM_ret hx hb hr hP hD hS (Eq.trans (if_neg c5) (Eq.trans (if_pos c15) (rfl))) dX6_refill_20 hlocks
  · refine lv_iconst (v := -1) hx hb dX6_refill_8 (by decide) ?_
    exact rwM_ret hx hb hr hP hD hS (Eq.trans (if_pos c5) (rfl)) dX6_refill_9 hlocks

def sp_X6_good (N : Nat → Int32) (Z : Nat → Nat → Int32) (x1 x2 : Int32) : Int32 × ((Nat → Int32) × (Nat → Nat → Int32)) :=
  if (sp_X6_in x1 (1 : Int32) (40 : Int32)) = 0 then (((-1 : Int32), (N, Z))) else (if (sp_X6_in x2 (1 : Int32) (200 : Int32)) = 0 then (((-1 : Int32), (N, Z))) else (if (N 0) = (20 : Int32) then (((-3 : Int32), (N, Z))) else (let k38_1 : Nat → Nat → Int32 := sp_X6_records N Z; let k52_2 : Nat → Int32 := sp_X6_lays N k38_1 (N 0) (0 : Int32) x1; let k59_3 : Nat → Int32 := sp_X6_lays k52_2 k38_1 (N 0) (1 : Int32) x2; let k67_4 : Nat → Int32 := sp_X6_lays k59_3 k38_1 (N 0) (6 : Int32) (-1 : Int32); let N5 : Nat → Int32 := upd k67_4 (0) ((k67_4 0) + (1 : Int32)); ((N 0), (N5, k38_1)))))
set_option maxHeartbeats 4000000 in
set_option maxRecDepth 100000 in
theorem c_X6_good (l : Launch) (D : va_G) (cI cC cW : ClassId) (t : Nat → Nat) (a : Nat → Nat) (sz : Nat) (N : Nat → Int32) (Z : Nat → Nat → Int32) (x1 x2 : Int32) (hsf : sfN N) (hps : psZ Z) : Met l yX6_good wsX6_good ({ frames := 2, cells := 0, slots := 0, locals := 45 }) (va_Pc [.ref (a 0), .int x1, .int x2] (rwP D (tyL cI cC cW) (md cI a N Z) t sz)) (va_Qi (fun (r : Int32) (u : ((Nat → Int32) × (Nat → Nat → Int32))) => (r, u) = sp_X6_good N Z x1 x2) (fun u => rwB D (va_A (md cI a N Z) sz) (md cI a u.1 u.2)) (va_A (md cI a N Z) sz)) 0 0 (va_A (md cI a N Z) sz) := by
  refine Met.ofW (cc := cX6_good) (maxL := 4) (ret := (some .int)) (by decide) rfl ?_
  intro p e s m args below meth c s₁ B hml hv
  obtain ⟨rfl, hsz, hP, hK, hD0, hX⟩ := hv
  have hx := B.exec
  have hb := B.bytes
  have hr := B.returns
  have hts := atoms_spec (ws := wsX6_good) B.pre
  have hown : s.vm.findClass RX6 = some m.cls := findClass_of_methodNamed B.named
  have hlocks := B.notSynchronized
  subst hsz
  have hD := hD0.self (sz := s.heap.size)
  generalize hAe : va_A (md cI a N Z) s.heap.size = A at hD hX ⊢
  have hA : ∀ q : Nat, s.heap.size ≤ q → A q := fun q h => by rw [← hAe]; exact Or.inr h
  have hS : va_S A s.heap s.heap [] := va_S.rf
  have wd1 : (Cond.fieldLink RX6 7 "PickSlotsModel" "now" "[I").before [.ref (a 0), .int x1, .int x2].toArray s = true := hts _ (List.mem_of_getElem? (i := 1) rfl)
  have hi6 : ∀ w ∈ wsX60, w ∈ wsX6_good := fun w h => List.mem_cons_of_mem _ (List.mem_append_right _ (h))
  have CF : CallFix p m c cX6_good 4 s [.ref (a 0), .int x1, .int x2].toArray wsX6_good RX6 := ⟨hx, hb, hml, hown, hts⟩
  have hl := lv_entry ([.ref (a 0), .int x1, .int x2]) (n := 4) (Nat.le_of_ble_eq_true rfl)
  rw [lg_entry_eq]
  generalize (lg_sl ([.ref (a 0), .int x1, .int x2]) ++ List.replicate (4 - (lg_sl ([.ref (a 0), .int x1, .int x2])).length) Slot.unset).toArray = ls at hl ⊢
  have hl : lv_has ls 4 [(0, .ref (a 0)), (1, .int x1), (2, .int x2)] := hl
  refine lv_iload_n hx hb dX6_good_0 rfl (lv_at hl 1 rfl) ?_
  refine lv_iconst (v := 1) hx hb dX6_good_1 (by decide) ?_
  refine lv_bipush (v := 40) hx hb dX6_good_2 (by decide) ?_
  refine roS CF (c_X6_in l D cI cC cW t _ _ _ ) (va_cwS 3 hts gX6_good_X6_in rfl rfl rfl (by decide +kernel) ⟨Nat.le_of_ble_eq_true rfl, Nat.le_of_ble_eq_true rfl⟩) vP_nil hK hX hS rfl hl.1 rfl (Nat.le_of_ble_eq_true rfl) dX6_good_4 ⟨Nat.zero_le _, Nat.zero_le _⟩ ?_
  refine lv_if_eq (tgt := 21) hx hb dX6_good_7 (by decide) (fun c7 => ?_) (fun c7 => ?_)
  · refine lv_iconst (v := -1) hx hb dX6_good_21 (by decide) ?_
    exact rwM_ret hx hb hr hP hD hS (Eq.trans (if_pos c7) (rfl)) dX6_good_22 hlocks
  · refine lv_iload_n hx hb dX6_good_10 rfl (lv_at hl 2 rfl) ?_
    refine lv_iconst (v := 1) hx hb dX6_good_11 (by decide) ?_
    refine lv_sipush (v := 200) hx hb dX6_good_12 (by decide) ?_
    refine roS CF (c_X6_in l D cI cC cW t _ _ _ ) (va_cwS 3 hts gX6_good_X6_in rfl rfl rfl (by decide +kernel) ⟨Nat.le_of_ble_eq_true rfl, Nat.le_of_ble_eq_true rfl⟩) vP_nil hK hX hS rfl hl.1 rfl (Nat.le_of_ble_eq_true rfl) dX6_good_15 ⟨Nat.zero_le _, Nat.zero_le _⟩ ?_
    refine lv_if_ne (tgt := 23) hx hb dX6_good_18 (by decide) (fun c18 => ?_) (fun c18 => ?_)
    · refine lv_aload_n hx hb dX6_good_23 rfl (lv_at hl 0 rfl) ?_
      refine va_get (D := D) (ci := 5) (C := RX6) (T := TX6) (N := 17) hx hb hts hi6 hown hK hP 0 md_0 rfl 0 (by decide) wd1 (fun _ h9 => h9) rfl dX6_good_24 ?_
      refine lv_iconst (v := 0) hx hb dX6_good_27 (by decide) ?_
      refine my_ialdK (k := 0) hx hb hK hP 1 0 md_1 rfl (by decide) (by first | (with_reducible first | assumption | exact m20 (by assumption) (by assumption) | exact ga20 (by assumption) (by assumption) | exact w2 (by assumption) | exact w2 (min4 (by assumption)) | exact w2 (s46 (by assumption)) | exact min4 (by assumption) | exact s46 (by assumption) | exact min11 (by assumption) (by assumption)) | (unfold vp_in; decide) | ((with_reducible (repeat (first | assumption | (refine sf_lays ?_ ?_ ?_; (with_reducible first | assumption | exact m20 (by assumption) (by assumption) | exact ga20 (by assumption) (by assumption)); (with_reducible first | exact v11_0 | exact v11_1 | exact v11_6 | exact v11_7 | exact v11_8 | exact v11_9 | exact v11_10 | exact w2 (by assumption) | exact w2 (min4 (by assumption)))) | (refine sf_adds ?_ ?_; (with_reducible first | exact v8_0 | exact v8_1 | exact v8_2 | exact v8_3 | exact v8_4 | exact v8_5 | exact v8_6 | exact v8_7)) | (refine sf_u (by omega) ?_)))); done)) dX6_good_28 ?_
      refine lv_bipush (v := 20) hx hb dX6_good_29 (by decide) ?_
      refine lv_icmp_ne (tgt := 37) hx hb dX6_good_31 (by decide) (fun c31 => ?_) (fun c31 => ?_)
      · have hg : vp_in (N 0) 20 := gd20n hsf c31
        refine lv_aload_n hx hb dX6_good_37 rfl (lv_at hl 0 rfl) ?_
        refine rwVv CF (c_X6_records l D cI cC cW t _ _ _ _  (by first | (with_reducible first | assumption | exact m20 (by assumption) (by assumption) | exact ga20 (by assumption) (by assumption) | exact w2 (by assumption) | exact w2 (min4 (by assumption)) | exact w2 (s46 (by assumption)) | exact min4 (by assumption) | exact s46 (by assumption) | exact min11 (by assumption) (by assumption)) | (unfold vp_in; decide) | ((with_reducible (repeat (first | assumption | (refine sf_lays ?_ ?_ ?_; (with_reducible first | assumption | exact m20 (by assumption) (by assumption) | exact ga20 (by assumption) (by assumption)); (with_reducible first | exact v11_0 | exact v11_1 | exact v11_6 | exact v11_7 | exact v11_8 | exact v11_9 | exact v11_10 | exact w2 (by assumption) | exact w2 (min4 (by assumption)))) | (refine sf_adds ?_ ?_; (with_reducible first | exact v8_0 | exact v8_1 | exact v8_2 | exact v8_3 | exact v8_4 | exact v8_5 | exact v8_6 | exact v8_7)) | (refine sf_u (by omega) ?_)))); done))) (cwV 0 hts gX6_good_X6_records rfl rfl rfl (by decide +kernel) ⟨Nat.le_of_ble_eq_true rfl, Nat.le_of_ble_eq_true rfl⟩) hP hD hK hX hS hA 0 5 md_0 rfl rfl hl.1 rfl (Nat.le_of_ble_eq_true rfl) dX6_good_38 ⟨Nat.zero_le _, Nat.zero_le _⟩ (fun H locs hP hD hS => ?_)
        refine lv_aload_n hx hb dX6_good_41 rfl (lv_at hl 0 rfl) ?_
        refine va_get (D := D) (ci := 5) (C := RX6) (T := TX6) (N := 17) hx hb hts hi6 hown hK hP 0 md_0 rfl 0 (by decide) wd1 (fun _ h9 => h9) rfl dX6_good_42 ?_
        refine lv_iconst (v := 0) hx hb dX6_good_45 (by decide) ?_
        refine my_ialdK (k := 0) hx hb hK hP 1 0 md_1 rfl (by decide) (by first | (with_reducible first | assumption | exact m20 (by assumption) (by assumption) | exact ga20 (by assumption) (by assumption) | exact w2 (by assumption) | exact w2 (min4 (by assumption)) | exact w2 (s46 (by assumption)) | exact min4 (by assumption) | exact s46 (by assumption) | exact min11 (by assumption) (by assumption)) | (unfold vp_in; decide) | ((with_reducible (repeat (first | assumption | (refine sf_lays ?_ ?_ ?_; (with_reducible first | assumption | exact m20 (by assumption) (by assumption) | exact ga20 (by assumption) (by assumption)); (with_reducible first | exact v11_0 | exact v11_1 | exact v11_6 | exact v11_7 | exact v11_8 | exact v11_9 | exact v11_10 | exact w2 (by assumption) | exact w2 (min4 (by assumption)))) | (refine sf_adds ?_ ?_; (with_reducible first | exact v8_0 | exact v8_1 | exact v8_2 | exact v8_3 | exact v8_4 | exact v8_5 | exact v8_6 | exact v8_7)) | (refine sf_u (by omega) ?_)))); done)) dX6_good_46 ?_
        refine lv_istore_n (lv' := [(3, .int _), (0, .ref _), (1, .int _), (2, .int _)]) hx hb dX6_good_47 rfl hl (by decide) rfl (fun ls hl => ?_)
        refine lv_aload_n hx hb dX6_good_48 rfl (lv_at hl 1 rfl) ?_
        refine lv_iload_n hx hb dX6_good_49 rfl (lv_at hl 0 rfl) ?_
        refine lv_iconst (v := 0) hx hb dX6_good_50 (by decide) ?_
        refine lv_iload_n hx hb dX6_good_51 rfl (lv_at hl 2 rfl) ?_
        refine rwVv CF (c_X6_lays l D cI cC cW t _ _ _ _ _ _ _ (by first | (with_reducible first | assumption | exact m20 (by assumption) (by assumption) | exact ga20 (by assumption) (by assumption) | exact w2 (by assumption) | exact w2 (min4 (by assumption)) | exact w2 (s46 (by assumption)) | exact min4 (by assumption) | exact s46 (by assumption) | exact min11 (by assumption) (by assumption)) | (unfold vp_in; decide) | ((with_reducible (repeat (first | assumption | (refine sf_lays ?_ ?_ ?_; (with_reducible first | assumption | exact m20 (by assumption) (by assumption) | exact ga20 (by assumption) (by assumption)); (with_reducible first | exact v11_0 | exact v11_1 | exact v11_6 | exact v11_7 | exact v11_8 | exact v11_9 | exact v11_10 | exact w2 (by assumption) | exact w2 (min4 (by assumption)))) | (refine sf_adds ?_ ?_; (with_reducible first | exact v8_0 | exact v8_1 | exact v8_2 | exact v8_3 | exact v8_4 | exact v8_5 | exact v8_6 | exact v8_7)) | (refine sf_u (by omega) ?_)))); done)) (by first | (with_reducible first | assumption | exact m20 (by assumption) (by assumption) | exact ga20 (by assumption) (by assumption) | exact w2 (by assumption) | exact w2 (min4 (by assumption)) | exact w2 (s46 (by assumption)) | exact min4 (by assumption) | exact s46 (by assumption) | exact min11 (by assumption) (by assumption)) | (unfold vp_in; decide) | ((with_reducible (repeat (first | assumption | (refine sf_lays ?_ ?_ ?_; (with_reducible first | assumption | exact m20 (by assumption) (by assumption) | exact ga20 (by assumption) (by assumption)); (with_reducible first | exact v11_0 | exact v11_1 | exact v11_6 | exact v11_7 | exact v11_8 | exact v11_9 | exact v11_10 | exact w2 (by assumption) | exact w2 (min4 (by assumption)))) | (refine sf_adds ?_ ?_; (with_reducible first | exact v8_0 | exact v8_1 | exact v8_2 | exact v8_3 | exact v8_4 | exact v8_5 | exact v8_6 | exact v8_7)) | (refine sf_u (by omega) ?_)))); done))) (cwV 3 hts gX6_good_X6_lays rfl rfl rfl (by decide +kernel) ⟨Nat.le_of_ble_eq_true rfl, Nat.le_of_ble_eq_true rfl⟩) hP hD hK hX hS hA 0 5 md_0 rfl rfl hl.1 rfl (Nat.le_of_ble_eq_true rfl) dX6_good_52 ⟨Nat.zero_le _, Nat.zero_le _⟩ (fun H locs hP hD hS => ?_)
        refine lv_aload_n hx hb dX6_good_55 rfl (lv_at hl 1 rfl) ?_
        refine lv_iload_n hx hb dX6_good_56 rfl (lv_at hl 0 rfl) ?_
        refine lv_iconst (v := 1) hx hb dX6_good_57 (by decide) ?_
        refine lv_iload_n hx hb dX6_good_58 rfl (lv_at hl 3 rfl) ?_
        refine rwVv CF (c_X6_lays l D cI cC cW t _ _ _ _ _ _ _ (by first | (with_reducible first | assumption | exact m20 (by assumption) (by assumption) | exact ga20 (by assumption) (by assumption) | exact w2 (by assumption) | exact w2 (min4 (by assumption)) | exact w2 (s46 (by assumption)) | exact min4 (by assumption) | exact s46 (by assumption) | exact min11 (by assumption) (by assumption)) | (unfold vp_in; decide) | ((with_reducible (repeat (first | assumption | (refine sf_lays ?_ ?_ ?_; (with_reducible first | assumption | exact m20 (by assumption) (by assumption) | exact ga20 (by assumption) (by assumption)); (with_reducible first | exact v11_0 | exact v11_1 | exact v11_6 | exact v11_7 | exact v11_8 | exact v11_9 | exact v11_10 | exact w2 (by assumption) | exact w2 (min4 (by assumption)))) | (refine sf_adds ?_ ?_; (with_reducible first | exact v8_0 | exact v8_1 | exact v8_2 | exact v8_3 | exact v8_4 | exact v8_5 | exact v8_6 | exact v8_7)) | (refine sf_u (by omega) ?_)))); done)) (by first | (with_reducible first | assumption | exact m20 (by assumption) (by assumption) | exact ga20 (by assumption) (by assumption) | exact w2 (by assumption) | exact w2 (min4 (by assumption)) | exact w2 (s46 (by assumption)) | exact min4 (by assumption) | exact s46 (by assumption) | exact min11 (by assumption) (by assumption)) | (unfold vp_in; decide) | ((with_reducible (repeat (first | assumption | (refine sf_lays ?_ ?_ ?_; (with_reducible first | assumption | exact m20 (by assumption) (by assumption) | exact ga20 (by assumption) (by assumption)); (with_reducible first | exact v11_0 | exact v11_1 | exact v11_6 | exact v11_7 | exact v11_8 | exact v11_9 | exact v11_10 | exact w2 (by assumption) | exact w2 (min4 (by assumption)))) | (refine sf_adds ?_ ?_; (with_reducible first | exact v8_0 | exact v8_1 | exact v8_2 | exact v8_3 | exact v8_4 | exact v8_5 | exact v8_6 | exact v8_7)) | (refine sf_u (by omega) ?_)))); done))) (cwV 3 hts gX6_good_X6_lays rfl rfl rfl (by decide +kernel) ⟨Nat.le_of_ble_eq_true rfl, Nat.le_of_ble_eq_true rfl⟩) hP hD hK hX hS hA 0 5 md_0 rfl rfl hl.1 rfl (Nat.le_of_ble_eq_true rfl) dX6_good_59 ⟨Nat.zero_le _, Nat.zero_le _⟩ (fun H locs hP hD hS => ?_)
        refine lv_aload_n hx hb dX6_good_62 rfl (lv_at hl 1 rfl) ?_
        refine lv_iload_n hx hb dX6_good_63 rfl (lv_at hl 0 rfl) ?_
        refine lv_bipush (v := 6) hx hb dX6_good_64 (by decide) ?_
        refine lv_iconst (v := -1) hx hb dX6_good_66 (by decide) ?_
        refine rwVv CF (c_X6_lays l D cI cC cW t _ _ _ _ _ _ _ (by first | (with_reducible first | assumption | exact m20 (by assumption) (by assumption) | exact ga20 (by assumption) (by assumption) | exact w2 (by assumption) | exact w2 (min4 (by assumption)) | exact w2 (s46 (by assumption)) | exact min4 (by assumption) | exact s46 (by assumption) | exact min11 (by assumption) (by assumption)) | (unfold vp_in; decide) | ((with_reducible (repeat (first | assumption | (refine sf_lays ?_ ?_ ?_; (with_reducible first | assumption | exact m20 (by assumption) (by assumption) | exact ga20 (by assumption) (by assumption)); (with_reducible first | exact v11_0 | exact v11_1 | exact v11_6 | exact v11_7 | exact v11_8 | exact v11_9 | exact v11_10 | exact w2 (by assumption) | exact w2 (min4 (by assumption)))) | (refine sf_adds ?_ ?_; (with_reducible first | exact v8_0 | exact v8_1 | exact v8_2 | exact v8_3 | exact v8_4 | exact v8_5 | exact v8_6 | exact v8_7)) | (refine sf_u (by omega) ?_)))); done)) (by first | (with_reducible first | assumption | exact m20 (by assumption) (by assumption) | exact ga20 (by assumption) (by assumption) | exact w2 (by assumption) | exact w2 (min4 (by assumption)) | exact w2 (s46 (by assumption)) | exact min4 (by assumption) | exact s46 (by assumption) | exact min11 (by assumption) (by assumption)) | (unfold vp_in; decide) | ((with_reducible (repeat (first | assumption | (refine sf_lays ?_ ?_ ?_; (with_reducible first | assumption | exact m20 (by assumption) (by assumption) | exact ga20 (by assumption) (by assumption)); (with_reducible first | exact v11_0 | exact v11_1 | exact v11_6 | exact v11_7 | exact v11_8 | exact v11_9 | exact v11_10 | exact w2 (by assumption) | exact w2 (min4 (by assumption)))) | (refine sf_adds ?_ ?_; (with_reducible first | exact v8_0 | exact v8_1 | exact v8_2 | exact v8_3 | exact v8_4 | exact v8_5 | exact v8_6 | exact v8_7)) | (refine sf_u (by omega) ?_)))); done))) (cwV 3 hts gX6_good_X6_lays rfl rfl rfl (by decide +kernel) ⟨Nat.le_of_ble_eq_true rfl, Nat.le_of_ble_eq_true rfl⟩) hP hD hK hX hS hA 0 5 md_0 rfl rfl hl.1 rfl (Nat.le_of_ble_eq_true rfl) dX6_good_67 ⟨Nat.zero_le _, Nat.zero_le _⟩ (fun H locs hP hD hS => ?_)
        refine lv_aload_n hx hb dX6_good_70 rfl (lv_at hl 1 rfl) ?_
        refine va_get (D := D) (ci := 5) (C := RX6) (T := TX6) (N := 17) hx hb hts hi6 hown hK hP 0 md_0 rfl 0 (by decide) wd1 (fun _ h9 => h9) rfl dX6_good_71 ?_
        refine lv_iconst (v := 0) hx hb dX6_good_74 (by decide) ?_
        refine lv_dup2_11 hx hb dX6_good_75 rfl rfl ?_
        refine my_ialdK (k := 0) hx hb hK hP 1 0 md_1 rfl (by decide) (by first | (with_reducible first | assumption | exact m20 (by assumption) (by assumption) | exact ga20 (by assumption) (by assumption) | exact w2 (by assumption) | exact w2 (min4 (by assumption)) | exact w2 (s46 (by assumption)) | exact min4 (by assumption) | exact s46 (by assumption) | exact min11 (by assumption) (by assumption)) | (unfold vp_in; decide) | ((with_reducible (repeat (first | assumption | (refine sf_lays ?_ ?_ ?_; (with_reducible first | assumption | exact m20 (by assumption) (by assumption) | exact ga20 (by assumption) (by assumption)); (with_reducible first | exact v11_0 | exact v11_1 | exact v11_6 | exact v11_7 | exact v11_8 | exact v11_9 | exact v11_10 | exact w2 (by assumption) | exact w2 (min4 (by assumption)))) | (refine sf_adds ?_ ?_; (with_reducible first | exact v8_0 | exact v8_1 | exact v8_2 | exact v8_3 | exact v8_4 | exact v8_5 | exact v8_6 | exact v8_7)) | (refine sf_u (by omega) ?_)))); done)) dX6_good_76 ?_
        refine lv_iconst (v := 1) hx hb dX6_good_77 (by decide) ?_
        refine lv_iadd hx hb dX6_good_78 ?_
        refine my_iastK (k := 0) hx hb hK hP hD hS 1 0 md_1 rfl (by decide) (md_s1 _ _) (by first | (with_reducible first | assumption | exact m20 (by assumption) (by assumption) | exact ga20 (by assumption) (by assumption) | exact w2 (by assumption) | exact w2 (min4 (by assumption)) | exact w2 (s46 (by assumption)) | exact min4 (by assumption) | exact s46 (by assumption) | exact min11 (by assumption) (by assumption)) | (unfold vp_in; decide) | ((with_reducible (repeat (first | assumption | (refine sf_lays ?_ ?_ ?_; (with_reducible first | assumption | exact m20 (by assumption) (by assumption) | exact ga20 (by assumption) (by assumption)); (with_reducible first | exact v11_0 | exact v11_1 | exact v11_6 | exact v11_7 | exact v11_8 | exact v11_9 | exact v11_10 | exact w2 (by assumption) | exact w2 (min4 (by assumption)))) | (refine sf_adds ?_ ?_; (with_reducible first | exact v8_0 | exact v8_1 | exact v8_2 | exact v8_3 | exact v8_4 | exact v8_5 | exact v8_6 | exact v8_7)) | (refine sf_u (by omega) ?_)))); done)) dX6_good_79 (fun H locs hP hD hS => ?_)
        refine lv_iload_n hx hb dX6_good_80 rfl (lv_at hl 0 rfl) ?_
        exact rwM_ret hx hb hr hP hD hS (Eq.trans (if_neg c7) (Eq.trans (if_neg c18) (Eq.trans (if_neg c31) (rfl)))) dX6_good_81 hlocks
      · refine lv_bipush (v := -3) hx hb dX6_good_34 (by decide) ?_
        exact rwM_ret hx hb hr hP hD hS (Eq.trans (if_neg c7) (Eq.trans (if_neg c18) (Eq.trans (if_pos c31) (rfl)))) dX6_good_36 hlocks
    · refine lv_iconst (v := -1) hx hb dX6_good_21 (by decide) ?_
      exact rwM_ret hx hb hr hP hD hS (Eq.trans (if_neg c7) (Eq.trans (if_pos c18) (rfl))) dX6_good_22 hlocks

def sp_X6_endWeek (N : Nat → Int32) (Z : Nat → Nat → Int32) : Int32 × ((Nat → Int32) × (Nat → Nat → Int32)) :=
  if (N 1) = (1000 : Int32) then (((-3 : Int32), (N, Z))) else (let k16_1 : Nat → Nat → Int32 := sp_X6_records N Z; let k20_2 : Nat → Int32 := sp_X6_ends N k16_1; ((k20_2 1), (k20_2, k16_1)))
set_option maxHeartbeats 4000000 in
set_option maxRecDepth 100000 in
theorem c_X6_endWeek (l : Launch) (D : va_G) (cI cC cW : ClassId) (t : Nat → Nat) (a : Nat → Nat) (sz : Nat) (N : Nat → Int32) (Z : Nat → Nat → Int32) (hsf : sfN N) (hps : psZ Z) : Met l yX6_endWeek wsX6_endWeek ({ frames := 4, cells := 0, slots := 0, locals := 88 }) (va_Pc [.ref (a 0)] (rwP D (tyL cI cC cW) (md cI a N Z) t sz)) (va_Qi (fun (r : Int32) (u : ((Nat → Int32) × (Nat → Nat → Int32))) => (r, u) = sp_X6_endWeek N Z) (fun u => rwB D (va_A (md cI a N Z) sz) (md cI a u.1 u.2)) (va_A (md cI a N Z) sz)) 0 0 (va_A (md cI a N Z) sz) := by
  refine Met.ofW (cc := cX6_endWeek) (maxL := 1) (ret := (some .int)) (by decide) rfl ?_
  intro p e s m args below meth c s₁ B hml hv
  obtain ⟨rfl, hsz, hP, hK, hD0, hX⟩ := hv
  have hx := B.exec
  have hb := B.bytes
  have hr := B.returns
  have hts := atoms_spec (ws := wsX6_endWeek) B.pre
  have hown : s.vm.findClass RX6 = some m.cls := findClass_of_methodNamed B.named
  have hlocks := B.notSynchronized
  subst hsz
  have hD := hD0.self (sz := s.heap.size)
  generalize hAe : va_A (md cI a N Z) s.heap.size = A at hD hX ⊢
  have hA : ∀ q : Nat, s.heap.size ≤ q → A q := fun q h => by rw [← hAe]; exact Or.inr h
  have hS : va_S A s.heap s.heap [] := va_S.rf
  have wd1 : (Cond.fieldLink RX6 7 "PickSlotsModel" "now" "[I").before [.ref (a 0)].toArray s = true := hts _ (List.mem_of_getElem? (i := 1) rfl)
  have hi6 : ∀ w ∈ wsX60, w ∈ wsX6_endWeek := fun w h => List.mem_cons_of_mem _ (List.mem_append_right _ (h))
  have CF : CallFix p m c cX6_endWeek 1 s [.ref (a 0)].toArray wsX6_endWeek RX6 := ⟨hx, hb, hml, hown, hts⟩
  have hl := lv_entry ([.ref (a 0)]) (n := 1) (Nat.le_of_ble_eq_true rfl)
  rw [lg_entry_eq]
  generalize (lg_sl ([.ref (a 0)]) ++ List.replicate (1 - (lg_sl ([.ref (a 0)])).length) Slot.unset).toArray = ls at hl ⊢
  have hl : lv_has ls 1 [(0, .ref (a 0))] := hl
  refine lv_aload_n hx hb dX6_endWeek_0 rfl (lv_at hl 0 rfl) ?_
  refine va_get (D := D) (ci := 5) (C := RX6) (T := TX6) (N := 17) hx hb hts hi6 hown hK hP 0 md_0 rfl 0 (by decide) wd1 (fun _ h9 => h9) rfl dX6_endWeek_1 ?_
  refine lv_iconst (v := 1) hx hb dX6_endWeek_4 (by decide) ?_
  refine my_ialdK (k := 1) hx hb hK hP 1 0 md_1 rfl (by decide) (by first | (with_reducible first | assumption | exact m20 (by assumption) (by assumption) | exact ga20 (by assumption) (by assumption) | exact w2 (by assumption) | exact w2 (min4 (by assumption)) | exact w2 (s46 (by assumption)) | exact min4 (by assumption) | exact s46 (by assumption) | exact min11 (by assumption) (by assumption)) | (unfold vp_in; decide) | ((with_reducible (repeat (first | assumption | (refine sf_lays ?_ ?_ ?_; (with_reducible first | assumption | exact m20 (by assumption) (by assumption) | exact ga20 (by assumption) (by assumption)); (with_reducible first | exact v11_0 | exact v11_1 | exact v11_6 | exact v11_7 | exact v11_8 | exact v11_9 | exact v11_10 | exact w2 (by assumption) | exact w2 (min4 (by assumption)))) | (refine sf_adds ?_ ?_; (with_reducible first | exact v8_0 | exact v8_1 | exact v8_2 | exact v8_3 | exact v8_4 | exact v8_5 | exact v8_6 | exact v8_7)) | (refine sf_u (by omega) ?_)))); done)) dX6_endWeek_5 ?_
  refine lv_sipush (v := 1000) hx hb dX6_endWeek_6 (by decide) ?_
  refine lv_icmp_ne (tgt := 15) hx hb dX6_endWeek_9 (by decide) (fun c9 => ?_) (fun c9 => ?_)
  · refine lv_aload_n hx hb dX6_endWeek_15 rfl (lv_at hl 0 rfl) ?_
    refine rwVv CF (c_X6_records l D cI cC cW t _ _ _ _  (by first | (with_reducible first | assumption | exact m20 (by assumption) (by assumption) | exact ga20 (by assumption) (by assumption) | exact w2 (by assumption) | exact w2 (min4 (by assumption)) | exact w2 (s46 (by assumption)) | exact min4 (by assumption) | exact s46 (by assumption) | exact min11 (by assumption) (by assumption)) | (unfold vp_in; decide) | ((with_reducible (repeat (first | assumption | (refine sf_lays ?_ ?_ ?_; (with_reducible first | assumption | exact m20 (by assumption) (by assumption) | exact ga20 (by assumption) (by assumption)); (with_reducible first | exact v11_0 | exact v11_1 | exact v11_6 | exact v11_7 | exact v11_8 | exact v11_9 | exact v11_10 | exact w2 (by assumption) | exact w2 (min4 (by assumption)))) | (refine sf_adds ?_ ?_; (with_reducible first | exact v8_0 | exact v8_1 | exact v8_2 | exact v8_3 | exact v8_4 | exact v8_5 | exact v8_6 | exact v8_7)) | (refine sf_u (by omega) ?_)))); done))) (cwV 0 hts gX6_endWeek_X6_records rfl rfl rfl (by decide +kernel) ⟨Nat.le_of_ble_eq_true rfl, Nat.le_of_ble_eq_true rfl⟩) hP hD hK hX hS hA 0 5 md_0 rfl rfl hl.1 rfl (Nat.le_of_ble_eq_true rfl) dX6_endWeek_16 ⟨Nat.zero_le _, Nat.zero_le _⟩ (fun H locs hP hD hS => ?_)
    refine lv_aload_n hx hb dX6_endWeek_19 rfl (lv_at hl 0 rfl) ?_
    refine rwVv CF (c_X6_ends l D cI cC cW t _ _ _ _  (hsf) (wk_lt hsf (by assumption))) (cwV 0 hts gX6_endWeek_X6_ends rfl rfl rfl (by decide +kernel) ⟨Nat.le_of_ble_eq_true rfl, Nat.le_of_ble_eq_true rfl⟩) hP hD hK hX hS hA 0 5 md_0 rfl rfl hl.1 rfl (Nat.le_of_ble_eq_true rfl) dX6_endWeek_20 ⟨Nat.zero_le _, Nat.zero_le _⟩ (fun H locs hP hD hS => ?_)
    refine lv_aload_n hx hb dX6_endWeek_23 rfl (lv_at hl 0 rfl) ?_
    refine va_get (D := D) (ci := 5) (C := RX6) (T := TX6) (N := 17) hx hb hts hi6 hown hK hP 0 md_0 rfl 0 (by decide) wd1 (fun _ h9 => h9) rfl dX6_endWeek_24 ?_
    refine lv_iconst (v := 1) hx hb dX6_endWeek_27 (by decide) ?_
    refine my_ialdK (k := 1) hx hb hK hP 1 0 md_1 rfl (by decide) (by first | (with_reducible first | assumption | exact m20 (by assumption) (by assumption) | exact ga20 (by assumption) (by assumption) | exact w2 (by assumption) | exact w2 (min4 (by assumption)) | exact w2 (s46 (by assumption)) | exact min4 (by assumption) | exact s46 (by assumption) | exact min11 (by assumption) (by assumption)) | (unfold vp_in; decide) | ((with_reducible (repeat (first | assumption | (refine sf_lays ?_ ?_ ?_; (with_reducible first | assumption | exact m20 (by assumption) (by assumption) | exact ga20 (by assumption) (by assumption)); (with_reducible first | exact v11_0 | exact v11_1 | exact v11_6 | exact v11_7 | exact v11_8 | exact v11_9 | exact v11_10 | exact w2 (by assumption) | exact w2 (min4 (by assumption)))) | (refine sf_adds ?_ ?_; (with_reducible first | exact v8_0 | exact v8_1 | exact v8_2 | exact v8_3 | exact v8_4 | exact v8_5 | exact v8_6 | exact v8_7)) | (refine sf_u (by omega) ?_)))); done)) dX6_endWeek_28 ?_
    exact rwM_ret hx hb hr hP hD hS (Eq.trans (if_neg c9) (rfl)) dX6_endWeek_29 hlocks
  · refine lv_bipush (v := -3) hx hb dX6_endWeek_12 (by decide) ?_
    exact rwM_ret hx hb hr hP hD hS (Eq.trans (if_pos c9) (rfl)) dX6_endWeek_14 hlocks

def sp_X6_set (N : Nat → Int32) (Z : Nat → Nat → Int32) (x1 x2 : Int32) : Int32 × ((Nat → Int32) × (Nat → Nat → Int32)) :=
  if (sp_X6_in x1 (0 : Int32) (2 : Int32)) = 0 then (((-1 : Int32), (N, Z))) else (if x1 = (1 : Int32) then (if x1 = 0 then (if (sp_X6_in x2 (1 : Int32) (200 : Int32)) = 0 then (((-1 : Int32), (N, Z))) else (let k51_1 : Nat → Nat → Int32 := sp_X6_records N Z; let N2 : Nat → Int32 := upd N ((ix ((2 : Int32) + x1))) x2; ((N ((ix ((2 : Int32) + x1)))), (N2, k51_1)))) else (if x1 = (1 : Int32) then (if (sp_X6_in x2 (1 : Int32) (500 : Int32)) = 0 then (((-1 : Int32), (N, Z))) else (let k51_1 : Nat → Nat → Int32 := sp_X6_records N Z; let N2 : Nat → Int32 := upd N ((ix ((2 : Int32) + x1))) x2; ((N ((ix ((2 : Int32) + x1)))), (N2, k51_1)))) else (if (sp_X6_in x2 (1 : Int32) (1 : Int32)) = 0 then (((-1 : Int32), (N, Z))) else (let k51_1 : Nat → Nat → Int32 := sp_X6_records N Z; let N2 : Nat → Int32 := upd N ((ix ((2 : Int32) + x1))) x2; ((N ((ix ((2 : Int32) + x1)))), (N2, k51_1)))))) else (if x1 = 0 then (if (sp_X6_in x2 (0 : Int32) (200 : Int32)) = 0 then (((-1 : Int32), (N, Z))) else (let k51_1 : Nat → Nat → Int32 := sp_X6_records N Z; let N2 : Nat → Int32 := upd N ((ix ((2 : Int32) + x1))) x2; ((N ((ix ((2 : Int32) + x1)))), (N2, k51_1)))) else (if x1 = (1 : Int32) then (if (sp_X6_in x2 (0 : Int32) (500 : Int32)) = 0 then (((-1 : Int32), (N, Z))) else (let k51_1 : Nat → Nat → Int32 := sp_X6_records N Z; let N2 : Nat → Int32 := upd N ((ix ((2 : Int32) + x1))) x2; ((N ((ix ((2 : Int32) + x1)))), (N2, k51_1)))) else (if (sp_X6_in x2 (0 : Int32) (1 : Int32)) = 0 then (((-1 : Int32), (N, Z))) else (let k51_1 : Nat → Nat → Int32 := sp_X6_records N Z; let N2 : Nat → Int32 := upd N ((ix ((2 : Int32) + x1))) x2; ((N ((ix ((2 : Int32) + x1)))), (N2, k51_1)))))))
set_option maxHeartbeats 4000000 in
set_option maxRecDepth 100000 in
theorem c_X6_set (l : Launch) (D : va_G) (cI cC cW : ClassId) (t : Nat → Nat) (a : Nat → Nat) (sz : Nat) (N : Nat → Int32) (Z : Nat → Nat → Int32) (x1 x2 : Int32) (hsf : sfN N) (hps : psZ Z) : Met l yX6_set wsX6_set ({ frames := 2, cells := 0, slots := 0, locals := 45 }) (va_Pc [.ref (a 0), .int x1, .int x2] (rwP D (tyL cI cC cW) (md cI a N Z) t sz)) (va_Qi (fun (r : Int32) (u : ((Nat → Int32) × (Nat → Nat → Int32))) => (r, u) = sp_X6_set N Z x1 x2) (fun u => rwB D (va_A (md cI a N Z) sz) (md cI a u.1 u.2)) (va_A (md cI a N Z) sz)) 0 0 (va_A (md cI a N Z) sz) := by
  refine Met.ofW (cc := cX6_set) (maxL := 4) (ret := (some .int)) (by decide) rfl ?_
  intro p e s m args below meth c s₁ B hml hv
  obtain ⟨rfl, hsz, hP, hK, hD0, hX⟩ := hv
  have hx := B.exec
  have hb := B.bytes
  have hr := B.returns
  have hts := atoms_spec (ws := wsX6_set) B.pre
  have hown : s.vm.findClass RX6 = some m.cls := findClass_of_methodNamed B.named
  have hlocks := B.notSynchronized
  subst hsz
  have hD := hD0.self (sz := s.heap.size)
  generalize hAe : va_A (md cI a N Z) s.heap.size = A at hD hX ⊢
  have hA : ∀ q : Nat, s.heap.size ≤ q → A q := fun q h => by rw [← hAe]; exact Or.inr h
  have hS : va_S A s.heap s.heap [] := va_S.rf
  have wd1 : (Cond.fieldLink RX6 7 "PickSlotsModel" "now" "[I").before [.ref (a 0), .int x1, .int x2].toArray s = true := hts _ (List.mem_of_getElem? (i := 1) rfl)
  have hi6 : ∀ w ∈ wsX60, w ∈ wsX6_set := fun w h => List.mem_cons_of_mem _ (List.mem_append_right _ (h))
  have CF : CallFix p m c cX6_set 4 s [.ref (a 0), .int x1, .int x2].toArray wsX6_set RX6 := ⟨hx, hb, hml, hown, hts⟩
  have hl := lv_entry ([.ref (a 0), .int x1, .int x2]) (n := 4) (Nat.le_of_ble_eq_true rfl)
  rw [lg_entry_eq]
  generalize (lg_sl ([.ref (a 0), .int x1, .int x2]) ++ List.replicate (4 - (lg_sl ([.ref (a 0), .int x1, .int x2])).length) Slot.unset).toArray = ls at hl ⊢
  have hl : lv_has ls 4 [(0, .ref (a 0)), (1, .int x1), (2, .int x2)] := hl
  refine lv_iload_n hx hb dX6_set_0 rfl (lv_at hl 1 rfl) ?_
  refine lv_iconst (v := 0) hx hb dX6_set_1 (by decide) ?_
  refine lv_iconst (v := 2) hx hb dX6_set_2 (by decide) ?_
  refine roS CF (c_X6_in l D cI cC cW t _ _ _ ) (va_cwS 3 hts gX6_set_X6_in rfl rfl rfl (by decide +kernel) ⟨Nat.le_of_ble_eq_true rfl, Nat.le_of_ble_eq_true rfl⟩) vP_nil hK hX hS rfl hl.1 rfl (Nat.le_of_ble_eq_true rfl) dX6_set_3 ⟨Nat.zero_le _, Nat.zero_le _⟩ ?_
  refine lv_if_eq (tgt := 48) hx hb dX6_set_6 (by decide) (fun c6 => ?_) (fun c6 => ?_)
  · refine lv_iconst (v := -1) hx hb dX6_set_48 (by decide) ?_
    exact rwM_ret hx hb hr hP hD hS (Eq.trans (if_pos c6) (rfl)) dX6_set_49 hlocks
  · refine lv_iload_n hx hb dX6_set_9 rfl (lv_at hl 2 rfl) ?_
    refine lv_iload_n hx hb dX6_set_10 rfl (lv_at hl 1 rfl) ?_
    refine lv_iconst (v := 1) hx hb dX6_set_11 (by decide) ?_
    refine lv_icmp_ne (tgt := 19) hx hb dX6_set_12 (by decide) (fun c12 => ?_) (fun c12 => ?_)
    · refine lv_iconst (v := 0) hx hb dX6_set_19 (by decide) ?_
      refine lv_iload_n hx hb dX6_set_20 rfl (lv_at hl 1 rfl) ?_
      refine lv_if_ne (tgt := 30) hx hb dX6_set_21 (by decide) (fun c21 => ?_) (fun c21 => ?_)
      · refine lv_iload_n hx hb dX6_set_30 rfl (lv_at hl 1 rfl) ?_
        refine lv_iconst (v := 1) hx hb dX6_set_31 (by decide) ?_
        refine lv_icmp_ne (tgt := 41) hx hb dX6_set_32 (by decide) (fun c32 => ?_) (fun c32 => ?_)
        · refine lv_iconst (v := 1) hx hb dX6_set_41 (by decide) ?_
          refine roS CF (c_X6_in l D cI cC cW t _ _ _ ) (va_cwS 3 hts gX6_set_X6_in rfl rfl rfl (by decide +kernel) ⟨Nat.le_of_ble_eq_true rfl, Nat.le_of_ble_eq_true rfl⟩) vP_nil hK hX hS rfl hl.1 rfl (Nat.le_of_ble_eq_true rfl) dX6_set_42 ⟨Nat.zero_le _, Nat.zero_le _⟩ ?_
          refine lv_if_ne (tgt := 50) hx hb dX6_set_45 (by decide) (fun c45 => ?_) (fun c45 => ?_)
          · refine lv_aload_n hx hb dX6_set_50 rfl (lv_at hl 0 rfl) ?_
            refine rwVv CF (c_X6_records l D cI cC cW t _ _ _ _  (by first | (with_reducible first | assumption | exact m20 (by assumption) (by assumption) | exact ga20 (by assumption) (by assumption) | exact w2 (by assumption) | exact w2 (min4 (by assumption)) | exact w2 (s46 (by assumption)) | exact min4 (by assumption) | exact s46 (by assumption) | exact min11 (by assumption) (by assumption)) | (unfold vp_in; decide) | ((with_reducible (repeat (first | assumption | (refine sf_lays ?_ ?_ ?_; (with_reducible first | assumption | exact m20 (by assumption) (by assumption) | exact ga20 (by assumption) (by assumption)); (with_reducible first | exact v11_0 | exact v11_1 | exact v11_6 | exact v11_7 | exact v11_8 | exact v11_9 | exact v11_10 | exact w2 (by assumption) | exact w2 (min4 (by assumption)))) | (refine sf_adds ?_ ?_; (with_reducible first | exact v8_0 | exact v8_1 | exact v8_2 | exact v8_3 | exact v8_4 | exact v8_5 | exact v8_6 | exact v8_7)) | (refine sf_u (by omega) ?_)))); done))) (cwV 0 hts gX6_set_X6_records rfl rfl rfl (by decide +kernel) ⟨Nat.le_of_ble_eq_true rfl, Nat.le_of_ble_eq_true rfl⟩) hP hD hK hX hS hA 0 5 md_0 rfl rfl hl.1 rfl (Nat.le_of_ble_eq_true rfl) dX6_set_51 ⟨Nat.zero_le _, Nat.zero_le _⟩ (fun H locs hP hD hS => ?_)
            refine lv_aload_n hx hb dX6_set_54 rfl (lv_at hl 0 rfl) ?_
            refine va_get (D := D) (ci := 5) (C := RX6) (T := TX6) (N := 17) hx hb hts hi6 hown hK hP 0 md_0 rfl 0 (by decide) wd1 (fun _ h9 => h9) rfl dX6_set_55 ?_
            refine lv_iconst (v := 2) hx hb dX6_set_58 (by decide) ?_
            refine lv_iload_n hx hb dX6_set_59 rfl (lv_at hl 1 rfl) ?_
            refine lv_iadd hx hb dX6_set_60 ?_
            refine va_iald hx hb hK hP 1 0 md_1 rfl (m2i (min3 c6)) dX6_set_61 ?_
            refine lv_istore_n (lv' := [(3, .int _), (0, .ref _), (1, .int _), (2, .int _)]) hx hb dX6_set_62 rfl hl (by decide) rfl (fun ls hl => ?_)
            refine lv_aload_n hx hb dX6_set_63 rfl (lv_at hl 1 rfl) ?_
            refine va_get (D := D) (ci := 5) (C := RX6) (T := TX6) (N := 17) hx hb hts hi6 hown hK hP 0 md_0 rfl 0 (by decide) wd1 (fun _ h9 => h9) rfl dX6_set_64 ?_
            refine lv_iconst (v := 2) hx hb dX6_set_67 (by decide) ?_
            refine lv_iload_n hx hb dX6_set_68 rfl (lv_at hl 2 rfl) ?_
            refine lv_iadd hx hb dX6_set_69 ?_
            refine lv_iload_n hx hb dX6_set_70 rfl (lv_at hl 3 rfl) ?_
            refine my_iast hx hb hK hP hD hS 1 0 md_1 rfl (md_s1 _ _) (m2i (min3 c6)) dX6_set_71 (fun H locs hP hD hS => ?_)
            refine lv_iload_n hx hb dX6_set_72 rfl (lv_at hl 0 rfl) ?_
            exact rwM_ret hx hb hr hP hD hS (Eq.trans (if_neg c6) (Eq.trans (if_neg c12) (Eq.trans (if_neg c21) (Eq.trans (if_neg c32) (Eq.trans (if_neg c45) (rfl)))))) dX6_set_73 hlocks
          · refine lv_iconst (v := -1) hx hb dX6_set_48 (by decide) ?_
            exact rwM_ret hx hb hr hP hD hS (Eq.trans (if_neg c6) (Eq.trans (if_neg c12) (Eq.trans (if_neg c21) (Eq.trans (if_neg c32) (Eq.trans (if_pos c45) (rfl)))))) dX6_set_49 hlocks
        · refine lv_sipush (v := 500) hx hb dX6_set_35 (by decide) ?_
          refine lv_goto (tgt := 42) hx hb dX6_set_38 (by decide) ?_
          refine roS CF (c_X6_in l D cI cC cW t _ _ _ ) (va_cwS 3 hts gX6_set_X6_in rfl rfl rfl (by decide +kernel) ⟨Nat.le_of_ble_eq_true rfl, Nat.le_of_ble_eq_true rfl⟩) vP_nil hK hX hS rfl hl.1 rfl (Nat.le_of_ble_eq_true rfl) dX6_set_42 ⟨Nat.zero_le _, Nat.zero_le _⟩ ?_
          refine lv_if_ne (tgt := 50) hx hb dX6_set_45 (by decide) (fun c45 => ?_) (fun c45 => ?_)
          · refine lv_aload_n hx hb dX6_set_50 rfl (lv_at hl 0 rfl) ?_
            refine rwVv CF (c_X6_records l D cI cC cW t _ _ _ _  (by first | (with_reducible first | assumption | exact m20 (by assumption) (by assumption) | exact ga20 (by assumption) (by assumption) | exact w2 (by assumption) | exact w2 (min4 (by assumption)) | exact w2 (s46 (by assumption)) | exact min4 (by assumption) | exact s46 (by assumption) | exact min11 (by assumption) (by assumption)) | (unfold vp_in; decide) | ((with_reducible (repeat (first | assumption | (refine sf_lays ?_ ?_ ?_; (with_reducible first | assumption | exact m20 (by assumption) (by assumption) | exact ga20 (by assumption) (by assumption)); (with_reducible first | exact v11_0 | exact v11_1 | exact v11_6 | exact v11_7 | exact v11_8 | exact v11_9 | exact v11_10 | exact w2 (by assumption) | exact w2 (min4 (by assumption)))) | (refine sf_adds ?_ ?_; (with_reducible first | exact v8_0 | exact v8_1 | exact v8_2 | exact v8_3 | exact v8_4 | exact v8_5 | exact v8_6 | exact v8_7)) | (refine sf_u (by omega) ?_)))); done))) (cwV 0 hts gX6_set_X6_records rfl rfl rfl (by decide +kernel) ⟨Nat.le_of_ble_eq_true rfl, Nat.le_of_ble_eq_true rfl⟩) hP hD hK hX hS hA 0 5 md_0 rfl rfl hl.1 rfl (Nat.le_of_ble_eq_true rfl) dX6_set_51 ⟨Nat.zero_le _, Nat.zero_le _⟩ (fun H locs hP hD hS => ?_)
            refine lv_aload_n hx hb dX6_set_54 rfl (lv_at hl 0 rfl) ?_
            refine va_get (D := D) (ci := 5) (C := RX6) (T := TX6) (N := 17) hx hb hts hi6 hown hK hP 0 md_0 rfl 0 (by decide) wd1 (fun _ h9 => h9) rfl dX6_set_55 ?_
            refine lv_iconst (v := 2) hx hb dX6_set_58 (by decide) ?_
            refine lv_iload_n hx hb dX6_set_59 rfl (lv_at hl 1 rfl) ?_
            refine lv_iadd hx hb dX6_set_60 ?_
            refine va_iald hx hb hK hP 1 0 md_1 rfl (m2i (min3 c6)) dX6_set_61 ?_
            refine lv_istore_n (lv' := [(3, .int _), (0, .ref _), (1, .int _), (2, .int _)]) hx hb dX6_set_62 rfl hl (by decide) rfl (fun ls hl => ?_)
            refine lv_aload_n hx hb dX6_set_63 rfl (lv_at hl 1 rfl) ?_
            refine va_get (D := D) (ci := 5) (C := RX6) (T := TX6) (N := 17) hx hb hts hi6 hown hK hP 0 md_0 rfl 0 (by decide) wd1 (fun _ h9 => h9) rfl dX6_set_64 ?_
            refine lv_iconst (v := 2) hx hb dX6_set_67 (by decide) ?_
            refine lv_iload_n hx hb dX6_set_68 rfl (lv_at hl 2 rfl) ?_
            refine lv_iadd hx hb dX6_set_69 ?_
            refine lv_iload_n hx hb dX6_set_70 rfl (lv_at hl 3 rfl) ?_
            refine my_iast hx hb hK hP hD hS 1 0 md_1 rfl (md_s1 _ _) (m2i (min3 c6)) dX6_set_71 (fun H locs hP hD hS => ?_)
            refine lv_iload_n hx hb dX6_set_72 rfl (lv_at hl 0 rfl) ?_
            exact rwM_ret hx hb hr hP hD hS (Eq.trans (if_neg c6) (Eq.trans (if_neg c12) (Eq.trans (if_neg c21) (Eq.trans (if_pos c32) (Eq.trans (if_neg c45) (rfl)))))) dX6_set_73 hlocks
          · refine lv_iconst (v := -1) hx hb dX6_set_48 (by decide) ?_
            exact rwM_ret hx hb hr hP hD hS (Eq.trans (if_neg c6) (Eq.trans (if_neg c12) (Eq.trans (if_neg c21) (Eq.trans (if_pos c32) (Eq.trans (if_pos c45) (rfl)))))) dX6_set_49 hlocks
      · refine lv_sipush (v := 200) hx hb dX6_set_24 (by decide) ?_
        refine lv_goto (tgt := 42) hx hb dX6_set_27 (by decide) ?_
        refine roS CF (c_X6_in l D cI cC cW t _ _ _ ) (va_cwS 3 hts gX6_set_X6_in rfl rfl rfl (by decide +kernel) ⟨Nat.le_of_ble_eq_true rfl, Nat.le_of_ble_eq_true rfl⟩) vP_nil hK hX hS rfl hl.1 rfl (Nat.le_of_ble_eq_true rfl) dX6_set_42 ⟨Nat.zero_le _, Nat.zero_le _⟩ ?_
        refine lv_if_ne (tgt := 50) hx hb dX6_set_45 (by decide) (fun c45 => ?_) (fun c45 => ?_)
        · refine lv_aload_n hx hb dX6_set_50 rfl (lv_at hl 0 rfl) ?_
          refine rwVv CF (c_X6_records l D cI cC cW t _ _ _ _  (by first | (with_reducible first | assumption | exact m20 (by assumption) (by assumption) | exact ga20 (by assumption) (by assumption) | exact w2 (by assumption) | exact w2 (min4 (by assumption)) | exact w2 (s46 (by assumption)) | exact min4 (by assumption) | exact s46 (by assumption) | exact min11 (by assumption) (by assumption)) | (unfold vp_in; decide) | ((with_reducible (repeat (first | assumption | (refine sf_lays ?_ ?_ ?_; (with_reducible first | assumption | exact m20 (by assumption) (by assumption) | exact ga20 (by assumption) (by assumption)); (with_reducible first | exact v11_0 | exact v11_1 | exact v11_6 | exact v11_7 | exact v11_8 | exact v11_9 | exact v11_10 | exact w2 (by assumption) | exact w2 (min4 (by assumption)))) | (refine sf_adds ?_ ?_; (with_reducible first | exact v8_0 | exact v8_1 | exact v8_2 | exact v8_3 | exact v8_4 | exact v8_5 | exact v8_6 | exact v8_7)) | (refine sf_u (by omega) ?_)))); done))) (cwV 0 hts gX6_set_X6_records rfl rfl rfl (by decide +kernel) ⟨Nat.le_of_ble_eq_true rfl, Nat.le_of_ble_eq_true rfl⟩) hP hD hK hX hS hA 0 5 md_0 rfl rfl hl.1 rfl (Nat.le_of_ble_eq_true rfl) dX6_set_51 ⟨Nat.zero_le _, Nat.zero_le _⟩ (fun H locs hP hD hS => ?_)
          refine lv_aload_n hx hb dX6_set_54 rfl (lv_at hl 0 rfl) ?_
          refine va_get (D := D) (ci := 5) (C := RX6) (T := TX6) (N := 17) hx hb hts hi6 hown hK hP 0 md_0 rfl 0 (by decide) wd1 (fun _ h9 => h9) rfl dX6_set_55 ?_
          refine lv_iconst (v := 2) hx hb dX6_set_58 (by decide) ?_
          refine lv_iload_n hx hb dX6_set_59 rfl (lv_at hl 1 rfl) ?_
          refine lv_iadd hx hb dX6_set_60 ?_
          refine va_iald hx hb hK hP 1 0 md_1 rfl (m2i (min3 c6)) dX6_set_61 ?_
          refine lv_istore_n (lv' := [(3, .int _), (0, .ref _), (1, .int _), (2, .int _)]) hx hb dX6_set_62 rfl hl (by decide) rfl (fun ls hl => ?_)
          refine lv_aload_n hx hb dX6_set_63 rfl (lv_at hl 1 rfl) ?_
          refine va_get (D := D) (ci := 5) (C := RX6) (T := TX6) (N := 17) hx hb hts hi6 hown hK hP 0 md_0 rfl 0 (by decide) wd1 (fun _ h9 => h9) rfl dX6_set_64 ?_
          refine lv_iconst (v := 2) hx hb dX6_set_67 (by decide) ?_
          refine lv_iload_n hx hb dX6_set_68 rfl (lv_at hl 2 rfl) ?_
          refine lv_iadd hx hb dX6_set_69 ?_
          refine lv_iload_n hx hb dX6_set_70 rfl (lv_at hl 3 rfl) ?_
          refine my_iast hx hb hK hP hD hS 1 0 md_1 rfl (md_s1 _ _) (m2i (min3 c6)) dX6_set_71 (fun H locs hP hD hS => ?_)
          refine lv_iload_n hx hb dX6_set_72 rfl (lv_at hl 0 rfl) ?_
          exact rwM_ret hx hb hr hP hD hS (Eq.trans (if_neg c6) (Eq.trans (if_neg c12) (Eq.trans (if_pos c21) (Eq.trans (if_neg c45) (rfl))))) dX6_set_73 hlocks
        · refine lv_iconst (v := -1) hx hb dX6_set_48 (by decide) ?_
          exact rwM_ret hx hb hr hP hD hS (Eq.trans (if_neg c6) (Eq.trans (if_neg c12) (Eq.trans (if_pos c21) (Eq.trans (if_pos c45) (rfl))))) dX6_set_49 hlocks
    · refine lv_iconst (v := 1) hx hb dX6_set_15 (by decide) ?_
      refine lv_goto (tgt := 20) hx hb dX6_set_16 (by decide) ?_
      refine lv_iload_n hx hb dX6_set_20 rfl (lv_at hl 1 rfl) ?_
      refine lv_if_ne (tgt := 30) hx hb dX6_set_21 (by decide) (fun c21 => ?_) (fun c21 => ?_)
      · refine lv_iload_n hx hb dX6_set_30 rfl (lv_at hl 1 rfl) ?_
        refine lv_iconst (v := 1) hx hb dX6_set_31 (by decide) ?_
        refine lv_icmp_ne (tgt := 41) hx hb dX6_set_32 (by decide) (fun c32 => ?_) (fun c32 => ?_)
        · refine lv_iconst (v := 1) hx hb dX6_set_41 (by decide) ?_
          refine roS CF (c_X6_in l D cI cC cW t _ _ _ ) (va_cwS 3 hts gX6_set_X6_in rfl rfl rfl (by decide +kernel) ⟨Nat.le_of_ble_eq_true rfl, Nat.le_of_ble_eq_true rfl⟩) vP_nil hK hX hS rfl hl.1 rfl (Nat.le_of_ble_eq_true rfl) dX6_set_42 ⟨Nat.zero_le _, Nat.zero_le _⟩ ?_
          refine lv_if_ne (tgt := 50) hx hb dX6_set_45 (by decide) (fun c45 => ?_) (fun c45 => ?_)
          · refine lv_aload_n hx hb dX6_set_50 rfl (lv_at hl 0 rfl) ?_
            refine rwVv CF (c_X6_records l D cI cC cW t _ _ _ _  (by first | (with_reducible first | assumption | exact m20 (by assumption) (by assumption) | exact ga20 (by assumption) (by assumption) | exact w2 (by assumption) | exact w2 (min4 (by assumption)) | exact w2 (s46 (by assumption)) | exact min4 (by assumption) | exact s46 (by assumption) | exact min11 (by assumption) (by assumption)) | (unfold vp_in; decide) | ((with_reducible (repeat (first | assumption | (refine sf_lays ?_ ?_ ?_; (with_reducible first | assumption | exact m20 (by assumption) (by assumption) | exact ga20 (by assumption) (by assumption)); (with_reducible first | exact v11_0 | exact v11_1 | exact v11_6 | exact v11_7 | exact v11_8 | exact v11_9 | exact v11_10 | exact w2 (by assumption) | exact w2 (min4 (by assumption)))) | (refine sf_adds ?_ ?_; (with_reducible first | exact v8_0 | exact v8_1 | exact v8_2 | exact v8_3 | exact v8_4 | exact v8_5 | exact v8_6 | exact v8_7)) | (refine sf_u (by omega) ?_)))); done))) (cwV 0 hts gX6_set_X6_records rfl rfl rfl (by decide +kernel) ⟨Nat.le_of_ble_eq_true rfl, Nat.le_of_ble_eq_true rfl⟩) hP hD hK hX hS hA 0 5 md_0 rfl rfl hl.1 rfl (Nat.le_of_ble_eq_true rfl) dX6_set_51 ⟨Nat.zero_le _, Nat.zero_le _⟩ (fun H locs hP hD hS => ?_)
            refine lv_aload_n hx hb dX6_set_54 rfl (lv_at hl 0 rfl) ?_
            refine va_get (D := D) (ci := 5) (C := RX6) (T := TX6) (N := 17) hx hb hts hi6 hown hK hP 0 md_0 rfl 0 (by decide) wd1 (fun _ h9 => h9) rfl dX6_set_55 ?_
            refine lv_iconst (v := 2) hx hb dX6_set_58 (by decide) ?_
            refine lv_iload_n hx hb dX6_set_59 rfl (lv_at hl 1 rfl) ?_
            refine lv_iadd hx hb dX6_set_60 ?_
            refine va_iald hx hb hK hP 1 0 md_1 rfl (m2i (min3 c6)) dX6_set_61 ?_
            refine lv_istore_n (lv' := [(3, .int _), (0, .ref _), (1, .int _), (2, .int _)]) hx hb dX6_set_62 rfl hl (by decide) rfl (fun ls hl => ?_)
            refine lv_aload_n hx hb dX6_set_63 rfl (lv_at hl 1 rfl) ?_
            refine va_get (D := D) (ci := 5) (C := RX6) (T := TX6) (N := 17) hx hb hts hi6 hown hK hP 0 md_0 rfl 0 (by decide) wd1 (fun _ h9 => h9) rfl dX6_set_64 ?_
            refine lv_iconst (v := 2) hx hb dX6_set_67 (by decide) ?_
            refine lv_iload_n hx hb dX6_set_68 rfl (lv_at hl 2 rfl) ?_
            refine lv_iadd hx hb dX6_set_69 ?_
            refine lv_iload_n hx hb dX6_set_70 rfl (lv_at hl 3 rfl) ?_
            refine my_iast hx hb hK hP hD hS 1 0 md_1 rfl (md_s1 _ _) (m2i (min3 c6)) dX6_set_71 (fun H locs hP hD hS => ?_)
            refine lv_iload_n hx hb dX6_set_72 rfl (lv_at hl 0 rfl) ?_
            exact rwM_ret hx hb hr hP hD hS (Eq.trans (if_neg c6) (Eq.trans (if_pos c12) (Eq.trans (if_neg c21) (Eq.trans (if_neg c32) (Eq.trans (if_neg c45) (rfl)))))) dX6_set_73 hlocks
          · refine lv_iconst (v := -1) hx hb dX6_set_48 (by decide) ?_
            exact rwM_ret hx hb hr hP hD hS (Eq.trans (if_neg c6) (Eq.trans (if_pos c12) (Eq.trans (if_neg c21) (Eq.trans (if_neg c32) (Eq.trans (if_pos c45) (rfl)))))) dX6_set_49 hlocks
        · refine lv_sipush (v := 500) hx hb dX6_set_35 (by decide) ?_
          refine lv_goto (tgt := 42) hx hb dX6_set_38 (by decide) ?_
          refine roS CF (c_X6_in l D cI cC cW t _ _ _ ) (va_cwS 3 hts gX6_set_X6_in rfl rfl rfl (by decide +kernel) ⟨Nat.le_of_ble_eq_true rfl, Nat.le_of_ble_eq_true rfl⟩) vP_nil hK hX hS rfl hl.1 rfl (Nat.le_of_ble_eq_true rfl) dX6_set_42 ⟨Nat.zero_le _, Nat.zero_le _⟩ ?_
          refine lv_if_ne (tgt := 50) hx hb dX6_set_45 (by decide) (fun c45 => ?_) (fun c45 => ?_)
          · refine lv_aload_n hx hb dX6_set_50 rfl (lv_at hl 0 rfl) ?_
            refine rwVv CF (c_X6_records l D cI cC cW t _ _ _ _  (by first | (with_reducible first | assumption | exact m20 (by assumption) (by assumption) | exact ga20 (by assumption) (by assumption) | exact w2 (by assumption) | exact w2 (min4 (by assumption)) | exact w2 (s46 (by assumption)) | exact min4 (by assumption) | exact s46 (by assumption) | exact min11 (by assumption) (by assumption)) | (unfold vp_in; decide) | ((with_reducible (repeat (first | assumption | (refine sf_lays ?_ ?_ ?_; (with_reducible first | assumption | exact m20 (by assumption) (by assumption) | exact ga20 (by assumption) (by assumption)); (with_reducible first | exact v11_0 | exact v11_1 | exact v11_6 | exact v11_7 | exact v11_8 | exact v11_9 | exact v11_10 | exact w2 (by assumption) | exact w2 (min4 (by assumption)))) | (refine sf_adds ?_ ?_; (with_reducible first | exact v8_0 | exact v8_1 | exact v8_2 | exact v8_3 | exact v8_4 | exact v8_5 | exact v8_6 | exact v8_7)) | (refine sf_u (by omega) ?_)))); done))) (cwV 0 hts gX6_set_X6_records rfl rfl rfl (by decide +kernel) ⟨Nat.le_of_ble_eq_true rfl, Nat.le_of_ble_eq_true rfl⟩) hP hD hK hX hS hA 0 5 md_0 rfl rfl hl.1 rfl (Nat.le_of_ble_eq_true rfl) dX6_set_51 ⟨Nat.zero_le _, Nat.zero_le _⟩ (fun H locs hP hD hS => ?_)
            refine lv_aload_n hx hb dX6_set_54 rfl (lv_at hl 0 rfl) ?_
            refine va_get (D := D) (ci := 5) (C := RX6) (T := TX6) (N := 17) hx hb hts hi6 hown hK hP 0 md_0 rfl 0 (by decide) wd1 (fun _ h9 => h9) rfl dX6_set_55 ?_
            refine lv_iconst (v := 2) hx hb dX6_set_58 (by decide) ?_
            refine lv_iload_n hx hb dX6_set_59 rfl (lv_at hl 1 rfl) ?_
            refine lv_iadd hx hb dX6_set_60 ?_
            refine va_iald hx hb hK hP 1 0 md_1 rfl (m2i (min3 c6)) dX6_set_61 ?_
            refine lv_istore_n (lv' := [(3, .int _), (0, .ref _), (1, .int _), (2, .int _)]) hx hb dX6_set_62 rfl hl (by decide) rfl (fun ls hl => ?_)
            refine lv_aload_n hx hb dX6_set_63 rfl (lv_at hl 1 rfl) ?_
            refine va_get (D := D) (ci := 5) (C := RX6) (T := TX6) (N := 17) hx hb hts hi6 hown hK hP 0 md_0 rfl 0 (by decide) wd1 (fun _ h9 => h9) rfl dX6_set_64 ?_
            refine lv_iconst (v := 2) hx hb dX6_set_67 (by decide) ?_
            refine lv_iload_n hx hb dX6_set_68 rfl (lv_at hl 2 rfl) ?_
            refine lv_iadd hx hb dX6_set_69 ?_
            refine lv_iload_n hx hb dX6_set_70 rfl (lv_at hl 3 rfl) ?_
            refine my_iast hx hb hK hP hD hS 1 0 md_1 rfl (md_s1 _ _) (m2i (min3 c6)) dX6_set_71 (fun H locs hP hD hS => ?_)
            refine lv_iload_n hx hb dX6_set_72 rfl (lv_at hl 0 rfl) ?_
            exact rwM_ret hx hb hr hP hD hS (Eq.trans (if_neg c6) (Eq.trans (if_pos c12) (Eq.trans (if_neg c21) (Eq.trans (if_pos c32) (Eq.trans (if_neg c45) (rfl)))))) dX6_set_73 hlocks
          · refine lv_iconst (v := -1) hx hb dX6_set_48 (by decide) ?_
            exact rwM_ret hx hb hr hP hD hS (Eq.trans (if_neg c6) (Eq.trans (if_pos c12) (Eq.trans (if_neg c21) (Eq.trans (if_pos c32) (Eq.trans (if_pos c45) (rfl)))))) dX6_set_49 hlocks
      · refine lv_sipush (v := 200) hx hb dX6_set_24 (by decide) ?_
        refine lv_goto (tgt := 42) hx hb dX6_set_27 (by decide) ?_
        refine roS CF (c_X6_in l D cI cC cW t _ _ _ ) (va_cwS 3 hts gX6_set_X6_in rfl rfl rfl (by decide +kernel) ⟨Nat.le_of_ble_eq_true rfl, Nat.le_of_ble_eq_true rfl⟩) vP_nil hK hX hS rfl hl.1 rfl (Nat.le_of_ble_eq_true rfl) dX6_set_42 ⟨Nat.zero_le _, Nat.zero_le _⟩ ?_
        refine lv_if_ne (tgt := 50) hx hb dX6_set_45 (by decide) (fun c45 => ?_) (fun c45 => ?_)
        · refine lv_aload_n hx hb dX6_set_50 rfl (lv_at hl 0 rfl) ?_
          refine rwVv CF (c_X6_records l D cI cC cW t _ _ _ _  (by first | (with_reducible first | assumption | exact m20 (by assumption) (by assumption) | exact ga20 (by assumption) (by assumption) | exact w2 (by assumption) | exact w2 (min4 (by assumption)) | exact w2 (s46 (by assumption)) | exact min4 (by assumption) | exact s46 (by assumption) | exact min11 (by assumption) (by assumption)) | (unfold vp_in; decide) | ((with_reducible (repeat (first | assumption | (refine sf_lays ?_ ?_ ?_; (with_reducible first | assumption | exact m20 (by assumption) (by assumption) | exact ga20 (by assumption) (by assumption)); (with_reducible first | exact v11_0 | exact v11_1 | exact v11_6 | exact v11_7 | exact v11_8 | exact v11_9 | exact v11_10 | exact w2 (by assumption) | exact w2 (min4 (by assumption)))) | (refine sf_adds ?_ ?_; (with_reducible first | exact v8_0 | exact v8_1 | exact v8_2 | exact v8_3 | exact v8_4 | exact v8_5 | exact v8_6 | exact v8_7)) | (refine sf_u (by omega) ?_)))); done))) (cwV 0 hts gX6_set_X6_records rfl rfl rfl (by decide +kernel) ⟨Nat.le_of_ble_eq_true rfl, Nat.le_of_ble_eq_true rfl⟩) hP hD hK hX hS hA 0 5 md_0 rfl rfl hl.1 rfl (Nat.le_of_ble_eq_true rfl) dX6_set_51 ⟨Nat.zero_le _, Nat.zero_le _⟩ (fun H locs hP hD hS => ?_)
          refine lv_aload_n hx hb dX6_set_54 rfl (lv_at hl 0 rfl) ?_
          refine va_get (D := D) (ci := 5) (C := RX6) (T := TX6) (N := 17) hx hb hts hi6 hown hK hP 0 md_0 rfl 0 (by decide) wd1 (fun _ h9 => h9) rfl dX6_set_55 ?_
          refine lv_iconst (v := 2) hx hb dX6_set_58 (by decide) ?_
          refine lv_iload_n hx hb dX6_set_59 rfl (lv_at hl 1 rfl) ?_
          refine lv_iadd hx hb dX6_set_60 ?_
          refine va_iald hx hb hK hP 1 0 md_1 rfl (m2i (min3 c6)) dX6_set_61 ?_
          refine lv_istore_n (lv' := [(3, .int _), (0, .ref _), (1, .int _), (2, .int _)]) hx hb dX6_set_62 rfl hl (by decide) rfl (fun ls hl => ?_)
          refine lv_aload_n hx hb dX6_set_63 rfl (lv_at hl 1 rfl) ?_
          refine va_get (D := D) (ci := 5) (C := RX6) (T := TX6) (N := 17) hx hb hts hi6 hown hK hP 0 md_0 rfl 0 (by decide) wd1 (fun _ h9 => h9) rfl dX6_set_64 ?_
          refine lv_iconst (v := 2) hx hb dX6_set_67 (by decide) ?_
          refine lv_iload_n hx hb dX6_set_68 rfl (lv_at hl 2 rfl) ?_
          refine lv_iadd hx hb dX6_set_69 ?_
          refine lv_iload_n hx hb dX6_set_70 rfl (lv_at hl 3 rfl) ?_
          refine my_iast hx hb hK hP hD hS 1 0 md_1 rfl (md_s1 _ _) (m2i (min3 c6)) dX6_set_71 (fun H locs hP hD hS => ?_)
          refine lv_iload_n hx hb dX6_set_72 rfl (lv_at hl 0 rfl) ?_
          exact rwM_ret hx hb hr hP hD hS (Eq.trans (if_neg c6) (Eq.trans (if_pos c12) (Eq.trans (if_pos c21) (Eq.trans (if_neg c45) (rfl))))) dX6_set_73 hlocks
        · refine lv_iconst (v := -1) hx hb dX6_set_48 (by decide) ?_
          exact rwM_ret hx hb hr hP hD hS (Eq.trans (if_neg c6) (Eq.trans (if_pos c12) (Eq.trans (if_pos c21) (Eq.trans (if_pos c45) (rfl))))) dX6_set_49 hlocks

def sp_X6_count (N : Nat → Int32) (Z : Nat → Nat → Int32) (x1 : Int32) : Int32 :=
  if x1 = (0 : Int32) then ((N 0)) else (if x1 = (1 : Int32) then ((sp_X6_sumOf N Z x1)) else (if x1 = (2 : Int32) then ((N 1)) else (if x1 = (3 : Int32) then ((sp_X6_season N Z)) else (if x1 = (4 : Int32) then ((sp_X6_weeksLeft N Z)) else (if x1 = (5 : Int32) then ((sp_X6_sumOf N Z x1)) else (if x1 = (6 : Int32) then ((sp_X6_sumOf N Z x1)) else (if x1 = (7 : Int32) then ((sp_X6_sumOf N Z x1)) else (if x1 = (8 : Int32) then ((Z 0 0)) else (if x1 = (9 : Int32) then ((Z 0 1)) else (if (sp_X6_in x1 (20 : Int32) (22 : Int32)) = 0 then ((-1 : Int32)) else ((N ((ix (((2 : Int32) + x1) - (20 : Int32))))))))))))))))
set_option maxHeartbeats 4000000 in
set_option maxRecDepth 100000 in
theorem c_X6_count (l : Launch) (D : va_G) (cI cC cW : ClassId) (t : Nat → Nat) (a : Nat → Nat) (N : Nat → Int32) (Z : Nat → Nat → Int32) (x1 : Int32) (hsf : sfN N) : Met l yX6_count wsX6_count ({ frames := 2, cells := 0, slots := 0, locals := 46 }) (va_Pc [.ref (a 0), .int x1] (roP D (tyL cI cC cW) (md cI a N Z) t)) (vp_Si (fun r => r = sp_X6_count N Z x1)) 0 0 (fun _ => False) := by
  refine Met.ofW (cc := cX6_count) (maxL := 2) (ret := (some .int)) (by decide) rfl ?_
  intro p e s m args below meth c s₁ B hml hv
  obtain ⟨rfl, hP, hK, hX⟩ := hv
  have hx := B.exec
  have hb := B.bytes
  have hr := B.returns
  have hts := atoms_spec (ws := wsX6_count) B.pre
  have hown : s.vm.findClass RX6 = some m.cls := findClass_of_methodNamed B.named
  have hlocks := B.notSynchronized
  have hS : va_S (fun _ => False) s.heap s.heap [] := va_S.rf
  have wd1 : (Cond.fieldLink RX6 7 "PickSlotsModel" "now" "[I").before [.ref (a 0), .int x1].toArray s = true := hts _ (List.mem_of_getElem? (i := 1) rfl)
  have wd2 : (Cond.fieldLink RX6 28 "PickSlotsModel" "pasts" "I").before [.ref (a 0), .int x1].toArray s = true := hts _ (List.mem_of_getElem? (i := 2) rfl)
  have wd3 : (Cond.fieldLink RX6 156 "PickSlotsModel" "typed" "I").before [.ref (a 0), .int x1].toArray s = true := hts _ (List.mem_of_getElem? (i := 3) rfl)
  have hi6 : ∀ w ∈ wsX60, w ∈ wsX6_count := fun w h => List.mem_cons_of_mem _ (List.mem_append_right _ (h))
  have CF : CallFix p m c cX6_count 2 s [.ref (a 0), .int x1].toArray wsX6_count RX6 := ⟨hx, hb, hml, hown, hts⟩
  have hl := lv_entry ([.ref (a 0), .int x1]) (n := 2) (Nat.le_of_ble_eq_true rfl)
  rw [lg_entry_eq]
  generalize (lg_sl ([.ref (a 0), .int x1]) ++ List.replicate (2 - (lg_sl ([.ref (a 0), .int x1])).length) Slot.unset).toArray = ls at hl ⊢
  have hl : lv_has ls 2 [(0, .ref (a 0)), (1, .int x1)] := hl
  refine lv_iload_n hx hb dX6_count_0 rfl (lv_at hl 1 rfl) ?_
  by_cases c1_0 : x1 = (0 : Int32)
  · refine lv_tableIn (tgt := 56) hx hb dX6_count_1 (by rw [c1_0]; decide) (by rw [c1_0]; decide) (by rw [c1_0]; rfl) (by decide) ?_
    refine lv_aload_n hx hb dX6_count_56 rfl (lv_at hl 0 rfl) ?_
    refine va_get (D := D) (ci := 5) (C := RX6) (T := TX6) (N := 17) hx hb hts hi6 hown hK hP 0 md_0 rfl 0 (by decide) wd1 (fun _ h9 => h9) rfl dX6_count_57 ?_
    refine lv_iconst (v := 0) hx hb dX6_count_60 (by decide) ?_
    refine my_ialdK (k := 0) hx hb hK hP 1 0 md_1 rfl (by decide) (by first | (with_reducible first | assumption | exact m20 (by assumption) (by assumption) | exact ga20 (by assumption) (by assumption) | exact w2 (by assumption) | exact w2 (min4 (by assumption)) | exact w2 (s46 (by assumption)) | exact min4 (by assumption) | exact s46 (by assumption) | exact min11 (by assumption) (by assumption)) | (unfold vp_in; decide) | ((with_reducible (repeat (first | assumption | (refine sf_lays ?_ ?_ ?_; (with_reducible first | assumption | exact m20 (by assumption) (by assumption) | exact ga20 (by assumption) (by assumption)); (with_reducible first | exact v11_0 | exact v11_1 | exact v11_6 | exact v11_7 | exact v11_8 | exact v11_9 | exact v11_10 | exact w2 (by assumption) | exact w2 (min4 (by assumption)))) | (refine sf_adds ?_ ?_; (with_reducible first | exact v8_0 | exact v8_1 | exact v8_2 | exact v8_3 | exact v8_4 | exact v8_5 | exact v8_6 | exact v8_7)) | (refine sf_u (by omega) ?_)))); done)) dX6_count_61 ?_
    exact ro_ret hx hb hr (Eq.trans (if_pos c1_0) (rfl)) dX6_count_62 hlocks
  · by_cases c1_1 : x1 = (1 : Int32)
    · refine lv_tableIn (tgt := 63) hx hb dX6_count_1 (by rw [c1_1]; decide) (by rw [c1_1]; decide) (by rw [c1_1]; rfl) (by decide) ?_
      refine lv_aload_n hx hb dX6_count_63 rfl (lv_at hl 0 rfl) ?_
      refine lv_iload_n hx hb dX6_count_64 rfl (lv_at hl 1 rfl) ?_
      refine roV CF (c_X6_sumOf l D cI cC cW t _ _ _ _ (by first | (with_reducible first | assumption | exact m20 (by assumption) (by assumption) | exact ga20 (by assumption) (by assumption) | exact w2 (by assumption) | exact w2 (min4 (by assumption)) | exact w2 (s46 (by assumption)) | exact min4 (by assumption) | exact s46 (by assumption) | exact min11 (by assumption) (by assumption)) | (unfold vp_in; decide) | ((with_reducible (repeat (first | assumption | (refine sf_lays ?_ ?_ ?_; (with_reducible first | assumption | exact m20 (by assumption) (by assumption) | exact ga20 (by assumption) (by assumption)); (with_reducible first | exact v11_0 | exact v11_1 | exact v11_6 | exact v11_7 | exact v11_8 | exact v11_9 | exact v11_10 | exact w2 (by assumption) | exact w2 (min4 (by assumption)))) | (refine sf_adds ?_ ?_; (with_reducible first | exact v8_0 | exact v8_1 | exact v8_2 | exact v8_3 | exact v8_4 | exact v8_5 | exact v8_6 | exact v8_7)) | (refine sf_u (by omega) ?_)))); done))) (cwV 1 hts gX6_count_X6_sumOf rfl rfl rfl (by decide +kernel) ⟨Nat.le_of_ble_eq_true rfl, Nat.le_of_ble_eq_true rfl⟩) hP hK hX hS 0 5 md_0 rfl rfl hl.1 rfl (Nat.le_of_ble_eq_true rfl) dX6_count_65 ⟨Nat.zero_le _, Nat.zero_le _⟩ ?_
      exact ro_ret hx hb hr (Eq.trans (if_neg c1_0) (Eq.trans (if_pos c1_1) (rfl))) dX6_count_68 hlocks
    · by_cases c1_2 : x1 = (2 : Int32)
      · refine lv_tableIn (tgt := 69) hx hb dX6_count_1 (by rw [c1_2]; decide) (by rw [c1_2]; decide) (by rw [c1_2]; rfl) (by decide) ?_
        refine lv_aload_n hx hb dX6_count_69 rfl (lv_at hl 0 rfl) ?_
        refine va_get (D := D) (ci := 5) (C := RX6) (T := TX6) (N := 17) hx hb hts hi6 hown hK hP 0 md_0 rfl 0 (by decide) wd1 (fun _ h9 => h9) rfl dX6_count_70 ?_
        refine lv_iconst (v := 1) hx hb dX6_count_73 (by decide) ?_
        refine my_ialdK (k := 1) hx hb hK hP 1 0 md_1 rfl (by decide) (by first | (with_reducible first | assumption | exact m20 (by assumption) (by assumption) | exact ga20 (by assumption) (by assumption) | exact w2 (by assumption) | exact w2 (min4 (by assumption)) | exact w2 (s46 (by assumption)) | exact min4 (by assumption) | exact s46 (by assumption) | exact min11 (by assumption) (by assumption)) | (unfold vp_in; decide) | ((with_reducible (repeat (first | assumption | (refine sf_lays ?_ ?_ ?_; (with_reducible first | assumption | exact m20 (by assumption) (by assumption) | exact ga20 (by assumption) (by assumption)); (with_reducible first | exact v11_0 | exact v11_1 | exact v11_6 | exact v11_7 | exact v11_8 | exact v11_9 | exact v11_10 | exact w2 (by assumption) | exact w2 (min4 (by assumption)))) | (refine sf_adds ?_ ?_; (with_reducible first | exact v8_0 | exact v8_1 | exact v8_2 | exact v8_3 | exact v8_4 | exact v8_5 | exact v8_6 | exact v8_7)) | (refine sf_u (by omega) ?_)))); done)) dX6_count_74 ?_
        exact ro_ret hx hb hr (Eq.trans (if_neg c1_0) (Eq.trans (if_neg c1_1) (Eq.trans (if_pos c1_2) (rfl)))) dX6_count_75 hlocks
      · by_cases c1_3 : x1 = (3 : Int32)
        · refine lv_tableIn (tgt := 76) hx hb dX6_count_1 (by rw [c1_3]; decide) (by rw [c1_3]; decide) (by rw [c1_3]; rfl) (by decide) ?_
          refine lv_aload_n hx hb dX6_count_76 rfl (lv_at hl 0 rfl) ?_
          refine roV CF (c_X6_season l D cI cC cW t _ _ _  ) (cwV 0 hts gX6_count_X6_season rfl rfl rfl (by decide +kernel) ⟨Nat.le_of_ble_eq_true rfl, Nat.le_of_ble_eq_true rfl⟩) hP hK hX hS 0 5 md_0 rfl rfl hl.1 rfl (Nat.le_of_ble_eq_true rfl) dX6_count_77 ⟨Nat.zero_le _, Nat.zero_le _⟩ ?_
          exact ro_ret hx hb hr (Eq.trans (if_neg c1_0) (Eq.trans (if_neg c1_1) (Eq.trans (if_neg c1_2) (Eq.trans (if_pos c1_3) (rfl))))) dX6_count_80 hlocks
        · by_cases c1_4 : x1 = (4 : Int32)
          · refine lv_tableIn (tgt := 81) hx hb dX6_count_1 (by rw [c1_4]; decide) (by rw [c1_4]; decide) (by rw [c1_4]; rfl) (by decide) ?_
            refine lv_aload_n hx hb dX6_count_81 rfl (lv_at hl 0 rfl) ?_
            refine roV CF (c_X6_weeksLeft l D cI cC cW t _ _ _  ) (cwV 0 hts gX6_count_X6_weeksLeft rfl rfl rfl (by decide +kernel) ⟨Nat.le_of_ble_eq_true rfl, Nat.le_of_ble_eq_true rfl⟩) hP hK hX hS 0 5 md_0 rfl rfl hl.1 rfl (Nat.le_of_ble_eq_true rfl) dX6_count_82 ⟨Nat.zero_le _, Nat.zero_le _⟩ ?_
            exact ro_ret hx hb hr (Eq.trans (if_neg c1_0) (Eq.trans (if_neg c1_1) (Eq.trans (if_neg c1_2) (Eq.trans (if_neg c1_3) (Eq.trans (if_pos c1_4) (rfl)))))) dX6_count_85 hlocks
          · by_cases c1_5 : x1 = (5 : Int32)
            · refine lv_tableIn (tgt := 63) hx hb dX6_count_1 (by rw [c1_5]; decide) (by rw [c1_5]; decide) (by rw [c1_5]; rfl) (by decide) ?_
              refine lv_aload_n hx hb dX6_count_63 rfl (lv_at hl 0 rfl) ?_
              refine lv_iload_n hx hb dX6_count_64 rfl (lv_at hl 1 rfl) ?_
              refine roV CF (c_X6_sumOf l D cI cC cW t _ _ _ _ (by first | (with_reducible first | assumption | exact m20 (by assumption) (by assumption) | exact ga20 (by assumption) (by assumption) | exact w2 (by assumption) | exact w2 (min4 (by assumption)) | exact w2 (s46 (by assumption)) | exact min4 (by assumption) | exact s46 (by assumption) | exact min11 (by assumption) (by assumption)) | (unfold vp_in; decide) | ((with_reducible (repeat (first | assumption | (refine sf_lays ?_ ?_ ?_; (with_reducible first | assumption | exact m20 (by assumption) (by assumption) | exact ga20 (by assumption) (by assumption)); (with_reducible first | exact v11_0 | exact v11_1 | exact v11_6 | exact v11_7 | exact v11_8 | exact v11_9 | exact v11_10 | exact w2 (by assumption) | exact w2 (min4 (by assumption)))) | (refine sf_adds ?_ ?_; (with_reducible first | exact v8_0 | exact v8_1 | exact v8_2 | exact v8_3 | exact v8_4 | exact v8_5 | exact v8_6 | exact v8_7)) | (refine sf_u (by omega) ?_)))); done))) (cwV 1 hts gX6_count_X6_sumOf rfl rfl rfl (by decide +kernel) ⟨Nat.le_of_ble_eq_true rfl, Nat.le_of_ble_eq_true rfl⟩) hP hK hX hS 0 5 md_0 rfl rfl hl.1 rfl (Nat.le_of_ble_eq_true rfl) dX6_count_65 ⟨Nat.zero_le _, Nat.zero_le _⟩ ?_
              exact ro_ret hx hb hr (Eq.trans (if_neg c1_0) (Eq.trans (if_neg c1_1) (Eq.trans (if_neg c1_2) (Eq.trans (if_neg c1_3) (Eq.trans (if_neg c1_4) (Eq.trans (if_pos c1_5) (rfl))))))) dX6_count_68 hlocks
            · by_cases c1_6 : x1 = (6 : Int32)
              · refine lv_tableIn (tgt := 63) hx hb dX6_count_1 (by rw [c1_6]; decide) (by rw [c1_6]; decide) (by rw [c1_6]; rfl) (by decide) ?_
                refine lv_aload_n hx hb dX6_count_63 rfl (lv_at hl 0 rfl) ?_
                refine lv_iload_n hx hb dX6_count_64 rfl (lv_at hl 1 rfl) ?_
                refine roV CF (c_X6_sumOf l D cI cC cW t _ _ _ _ (by first | (with_reducible first | assumption | exact m20 (by assumption) (by assumption) | exact ga20 (by assumption) (by assumption) | exact w2 (by assumption) | exact w2 (min4 (by assumption)) | exact w2 (s46 (by assumption)) | exact min4 (by assumption) | exact s46 (by assumption) | exact min11 (by assumption) (by assumption)) | (unfold vp_in; decide) | ((with_reducible (repeat (first | assumption | (refine sf_lays ?_ ?_ ?_; (with_reducible first | assumption | exact m20 (by assumption) (by assumption) | exact ga20 (by assumption) (by assumption)); (with_reducible first | exact v11_0 | exact v11_1 | exact v11_6 | exact v11_7 | exact v11_8 | exact v11_9 | exact v11_10 | exact w2 (by assumption) | exact w2 (min4 (by assumption)))) | (refine sf_adds ?_ ?_; (with_reducible first | exact v8_0 | exact v8_1 | exact v8_2 | exact v8_3 | exact v8_4 | exact v8_5 | exact v8_6 | exact v8_7)) | (refine sf_u (by omega) ?_)))); done))) (cwV 1 hts gX6_count_X6_sumOf rfl rfl rfl (by decide +kernel) ⟨Nat.le_of_ble_eq_true rfl, Nat.le_of_ble_eq_true rfl⟩) hP hK hX hS 0 5 md_0 rfl rfl hl.1 rfl (Nat.le_of_ble_eq_true rfl) dX6_count_65 ⟨Nat.zero_le _, Nat.zero_le _⟩ ?_
                exact ro_ret hx hb hr (Eq.trans (if_neg c1_0) (Eq.trans (if_neg c1_1) (Eq.trans (if_neg c1_2) (Eq.trans (if_neg c1_3) (Eq.trans (if_neg c1_4) (Eq.trans (if_neg c1_5) (Eq.trans (if_pos c1_6) (rfl)))))))) dX6_count_68 hlocks
              · by_cases c1_7 : x1 = (7 : Int32)
                · refine lv_tableIn (tgt := 63) hx hb dX6_count_1 (by rw [c1_7]; decide) (by rw [c1_7]; decide) (by rw [c1_7]; rfl) (by decide) ?_
                  refine lv_aload_n hx hb dX6_count_63 rfl (lv_at hl 0 rfl) ?_
                  refine lv_iload_n hx hb dX6_count_64 rfl (lv_at hl 1 rfl) ?_
                  refine roV CF (c_X6_sumOf l D cI cC cW t _ _ _ _ (by first | (with_reducible first | assumption | exact m20 (by assumption) (by assumption) | exact ga20 (by assumption) (by assumption) | exact w2 (by assumption) | exact w2 (min4 (by assumption)) | exact w2 (s46 (by assumption)) | exact min4 (by assumption) | exact s46 (by assumption) | exact min11 (by assumption) (by assumption)) | (unfold vp_in; decide) | ((with_reducible (repeat (first | assumption | (refine sf_lays ?_ ?_ ?_; (with_reducible first | assumption | exact m20 (by assumption) (by assumption) | exact ga20 (by assumption) (by assumption)); (with_reducible first | exact v11_0 | exact v11_1 | exact v11_6 | exact v11_7 | exact v11_8 | exact v11_9 | exact v11_10 | exact w2 (by assumption) | exact w2 (min4 (by assumption)))) | (refine sf_adds ?_ ?_; (with_reducible first | exact v8_0 | exact v8_1 | exact v8_2 | exact v8_3 | exact v8_4 | exact v8_5 | exact v8_6 | exact v8_7)) | (refine sf_u (by omega) ?_)))); done))) (cwV 1 hts gX6_count_X6_sumOf rfl rfl rfl (by decide +kernel) ⟨Nat.le_of_ble_eq_true rfl, Nat.le_of_ble_eq_true rfl⟩) hP hK hX hS 0 5 md_0 rfl rfl hl.1 rfl (Nat.le_of_ble_eq_true rfl) dX6_count_65 ⟨Nat.zero_le _, Nat.zero_le _⟩ ?_
                  exact ro_ret hx hb hr (Eq.trans (if_neg c1_0) (Eq.trans (if_neg c1_1) (Eq.trans (if_neg c1_2) (Eq.trans (if_neg c1_3) (Eq.trans (if_neg c1_4) (Eq.trans (if_neg c1_5) (Eq.trans (if_neg c1_6) (Eq.trans (if_pos c1_7) (rfl))))))))) dX6_count_68 hlocks
                · by_cases c1_8 : x1 = (8 : Int32)
                  · refine lv_tableIn (tgt := 86) hx hb dX6_count_1 (by rw [c1_8]; decide) (by rw [c1_8]; decide) (by rw [c1_8]; rfl) (by decide) ?_
                    refine lv_aload_n hx hb dX6_count_86 rfl (lv_at hl 0 rfl) ?_
                    refine va_get (D := D) (ci := 5) (C := RX6) (T := TX6) (N := 17) hx hb hts hi6 hown hK hP 0 md_0 rfl 2 (by decide) wd2 (fun _ h9 => h9) rfl dX6_count_87 ?_
                    exact ro_ret hx hb hr (Eq.trans (if_neg c1_0) (Eq.trans (if_neg c1_1) (Eq.trans (if_neg c1_2) (Eq.trans (if_neg c1_3) (Eq.trans (if_neg c1_4) (Eq.trans (if_neg c1_5) (Eq.trans (if_neg c1_6) (Eq.trans (if_neg c1_7) (Eq.trans (if_pos c1_8) (rfl)))))))))) dX6_count_90 hlocks
                  · by_cases c1_9 : x1 = (9 : Int32)
                    · refine lv_tableIn (tgt := 91) hx hb dX6_count_1 (by rw [c1_9]; decide) (by rw [c1_9]; decide) (by rw [c1_9]; rfl) (by decide) ?_
                      refine lv_aload_n hx hb dX6_count_91 rfl (lv_at hl 0 rfl) ?_
                      refine va_get (D := D) (ci := 5) (C := RX6) (T := TX6) (N := 17) hx hb hts hi6 hown hK hP 0 md_0 rfl 5 (by decide) wd3 (fun _ h9 => h9) rfl dX6_count_92 ?_
                      exact ro_ret hx hb hr (Eq.trans (if_neg c1_0) (Eq.trans (if_neg c1_1) (Eq.trans (if_neg c1_2) (Eq.trans (if_neg c1_3) (Eq.trans (if_neg c1_4) (Eq.trans (if_neg c1_5) (Eq.trans (if_neg c1_6) (Eq.trans (if_neg c1_7) (Eq.trans (if_neg c1_8) (Eq.trans (if_pos c1_9) (rfl))))))))))) dX6_count_95 hlocks
                    · refine lv_tableOut (tgt := 96) hx hb dX6_count_1 (by have q0 := lv_neT c1_0 (a := 0) (by decide); have q1 := lv_neT c1_1 (a := 1) (by decide); have q2 := lv_neT c1_2 (a := 2) (by decide); have q3 := lv_neT c1_3 (a := 3) (by decide); have q4 := lv_neT c1_4 (a := 4) (by decide); have q5 := lv_neT c1_5 (a := 5) (by decide); have q6 := lv_neT c1_6 (a := 6) (by decide); have q7 := lv_neT c1_7 (a := 7) (by decide); have q8 := lv_neT c1_8 (a := 8) (by decide); have q9 := lv_neT c1_9 (a := 9) (by decide); omega) (by decide) ?_
                      refine lv_iload_n hx hb dX6_count_96 rfl (lv_at hl 1 rfl) ?_
                      refine lv_bipush (v := 20) hx hb dX6_count_97 (by decide) ?_
                      refine lv_bipush (v := 22) hx hb dX6_count_99 (by decide) ?_
                      refine roS CF (c_X6_in l D cI cC cW t _ _ _ ) (va_cwS 3 hts gX6_count_X6_in rfl rfl rfl (by decide +kernel) ⟨Nat.le_of_ble_eq_true rfl, Nat.le_of_ble_eq_true rfl⟩) vP_nil hK hX hS rfl hl.1 rfl (Nat.le_of_ble_eq_true rfl) dX6_count_101 ⟨Nat.zero_le _, Nat.zero_le _⟩ ?_
                      refine lv_if_eq (tgt := 121) hx hb dX6_count_104 (by decide) (fun c104 => ?_) (fun c104 => ?_)
                      · refine lv_iconst (v := -1) hx hb dX6_count_121 (by decide) ?_
                        exact ro_ret hx hb hr (Eq.trans (if_neg c1_0) (Eq.trans (if_neg c1_1) (Eq.trans (if_neg c1_2) (Eq.trans (if_neg c1_3) (Eq.trans (if_neg c1_4) (Eq.trans (if_neg c1_5) (Eq.trans (if_neg c1_6) (Eq.trans (if_neg c1_7) (Eq.trans (if_neg c1_8) (Eq.trans (if_neg c1_9) (Eq.trans (if_pos c104) (rfl)))))))))))) dX6_count_122 hlocks
                      · refine lv_aload_n hx hb dX6_count_107 rfl (lv_at hl 0 rfl) ?_
                        refine va_get (D := D) (ci := 5) (C := RX6) (T := TX6) (N := 17) hx hb hts hi6 hown hK hP 0 md_0 rfl 0 (by decide) wd1 (fun _ h9 => h9) rfl dX6_count_108 ?_
                        refine lv_iconst (v := 2) hx hb dX6_count_111 (by decide) ?_
                        refine lv_iload_n hx hb dX6_count_112 rfl (lv_at hl 1 rfl) ?_
                        refine lv_iadd hx hb dX6_count_113 ?_
                        refine lv_bipush (v := 20) hx hb dX6_count_114 (by decide) ?_
                        refine lv_isub hx hb dX6_count_116 ?_
                        refine va_iald hx hb hK hP 1 0 md_1 rfl (cnt236 c104) dX6_count_117 ?_
                        refine lv_goto (tgt := 122) hx hb dX6_count_118 (by decide) ?_
                        exact ro_ret hx hb hr (Eq.trans (if_neg c1_0) (Eq.trans (if_neg c1_1) (Eq.trans (if_neg c1_2) (Eq.trans (if_neg c1_3) (Eq.trans (if_neg c1_4) (Eq.trans (if_neg c1_5) (Eq.trans (if_neg c1_6) (Eq.trans (if_neg c1_7) (Eq.trans (if_neg c1_8) (Eq.trans (if_neg c1_9) (Eq.trans (if_neg c104) (rfl)))))))))))) dX6_count_122 hlocks

def sp_X6_clearText (N : Nat → Int32) (Z : Nat → Nat → Int32) : Int32 × (Nat → Nat → Int32) :=
  let Z1 : Nat → Nat → Int32 := zu Z 0 1 (0 : Int32); ((Z 0 1), Z1)
set_option maxHeartbeats 4000000 in
set_option maxRecDepth 100000 in
theorem c_X6_clearText (l : Launch) (D : va_G) (cI cC cW : ClassId) (t : Nat → Nat) (a : Nat → Nat) (sz : Nat) (N : Nat → Int32) (Z : Nat → Nat → Int32)  : Met l yX6_clearText wsX6_clearText ({ frames := 0, cells := 0, slots := 0, locals := 0 }) (va_Pc [.ref (a 0)] (rwP D (tyL cI cC cW) (md cI a N Z) t sz)) (va_Qi (fun (r : Int32) (u : Nat → Nat → Int32) => (r, u) = sp_X6_clearText N Z) (fun u => rwB D (va_A (md cI a N Z) sz) (md cI a N u)) (va_A (md cI a N Z) sz)) 0 0 (va_A (md cI a N Z) sz) := by
  refine Met.ofW (cc := cX6_clearText) (maxL := 2) (ret := (some .int)) (by decide) rfl ?_
  intro p e s m args below meth c s₁ B hml hv
  obtain ⟨rfl, hsz, hP, hK, hD0, hX⟩ := hv
  have hx := B.exec
  have hb := B.bytes
  have hr := B.returns
  have hts := atoms_spec (ws := wsX6_clearText) B.pre
  have hown : s.vm.findClass RX6 = some m.cls := findClass_of_methodNamed B.named
  have hlocks := B.notSynchronized
  subst hsz
  have hD := hD0.self (sz := s.heap.size)
  generalize hAe : va_A (md cI a N Z) s.heap.size = A at hD hX ⊢
  have hA : ∀ q : Nat, s.heap.size ≤ q → A q := fun q h => by rw [← hAe]; exact Or.inr h
  have hS : va_S A s.heap s.heap [] := va_S.rf
  have wd1 : (Cond.fieldLink RX6 156 "PickSlotsModel" "typed" "I").before [.ref (a 0)].toArray s = true := hts _ (List.mem_of_getElem? (i := 1) rfl)
  have hi6 : ∀ w ∈ wsX60, w ∈ wsX6_clearText := fun w h => List.mem_cons_of_mem _ (List.mem_append_right _ (h))
  have hl := lv_entry ([.ref (a 0)]) (n := 2) (Nat.le_of_ble_eq_true rfl)
  rw [lg_entry_eq]
  generalize (lg_sl ([.ref (a 0)]) ++ List.replicate (2 - (lg_sl ([.ref (a 0)])).length) Slot.unset).toArray = ls at hl ⊢
  have hl : lv_has ls 2 [(0, .ref (a 0))] := hl
  refine lv_aload_n hx hb dX6_clearText_0 rfl (lv_at hl 0 rfl) ?_
  refine va_get (D := D) (ci := 5) (C := RX6) (T := TX6) (N := 17) hx hb hts hi6 hown hK hP 0 md_0 rfl 5 (by decide) wd1 (fun _ h9 => h9) rfl dX6_clearText_1 ?_
  refine lv_istore_n (lv' := [(1, .int _), (0, .ref _)]) hx hb dX6_clearText_4 rfl hl (by decide) rfl (fun ls hl => ?_)
  refine lv_aload_n hx hb dX6_clearText_5 rfl (lv_at hl 1 rfl) ?_
  refine lv_iconst (v := 0) hx hb dX6_clearText_6 (by decide) ?_
  refine my_put (D := D) (ci := 5) (C := RX6) (T := TX6) (N := 17) (ty := .int) hx hb hts hi6 tyX6 tyX6_ok nmX6 hown hK hP hD hS 0 md_0 rfl 5 (by decide) wd1 (fun _ h9 => h9) rfl (by decide +kernel) rfl rfl (Nat.le_of_ble_eq_true rfl) (md_f5 _) dX6_clearText_7 (fun H locs hP hD hS => ?_)
  refine lv_iload_n hx hb dX6_clearText_10 rfl (lv_at hl 0 rfl) ?_
  exact rw_ret _ hx hb hr hP hD hS (rfl) dX6_clearText_11 hlocks

def sp_X6_type (N : Nat → Int32) (Z : Nat → Nat → Int32) (x1 : Int32) : Int32 × (Nat → Nat → Int32) :=
  if (sp_X6_in x1 (32 : Int32) (126 : Int32)) = 0 then (((-1 : Int32), Z)) else (if (Z 0 1) = (60 : Int32) then (((-3 : Int32), Z)) else (let Z1 : Nat → Nat → Int32 := zu Z 3 (ix (Z 0 1)) x1; let Z2 : Nat → Nat → Int32 := zu Z1 0 1 ((Z1 0 1) + (1 : Int32)); ((Z2 0 1), Z2)))
set_option maxHeartbeats 4000000 in
set_option maxRecDepth 100000 in
theorem c_X6_type (l : Launch) (D : va_G) (cI cC cW : ClassId) (t : Nat → Nat) (a : Nat → Nat) (sz : Nat) (N : Nat → Int32) (Z : Nat → Nat → Int32) (x1 : Int32) (hty : tyZ Z) : Met l yX6_type wsX6_type ({ frames := 1, cells := 0, slots := 0, locals := 22 }) (va_Pc [.ref (a 0), .int x1] (rwP D (tyL cI cC cW) (md cI a N Z) t sz)) (va_Qi (fun (r : Int32) (u : Nat → Nat → Int32) => (r, u) = sp_X6_type N Z x1) (fun u => rwB D (va_A (md cI a N Z) sz) (md cI a N u)) (va_A (md cI a N Z) sz)) 0 0 (va_A (md cI a N Z) sz) := by
  refine Met.ofW (cc := cX6_type) (maxL := 2) (ret := (some .int)) (by decide) rfl ?_
  intro p e s m args below meth c s₁ B hml hv
  obtain ⟨rfl, hsz, hP, hK, hD0, hX⟩ := hv
  have hx := B.exec
  have hb := B.bytes
  have hr := B.returns
  have hts := atoms_spec (ws := wsX6_type) B.pre
  have hown : s.vm.findClass RX6 = some m.cls := findClass_of_methodNamed B.named
  have hlocks := B.notSynchronized
  subst hsz
  have hD := hD0.self (sz := s.heap.size)
  generalize hAe : va_A (md cI a N Z) s.heap.size = A at hD hX ⊢
  have hA : ∀ q : Nat, s.heap.size ≤ q → A q := fun q h => by rw [← hAe]; exact Or.inr h
  have hS : va_S A s.heap s.heap [] := va_S.rf
  have wd1 : (Cond.fieldLink RX6 156 "PickSlotsModel" "typed" "I").before [.ref (a 0), .int x1].toArray s = true := hts _ (List.mem_of_getElem? (i := 1) rfl)
  have wd2 : (Cond.fieldLink RX6 19 "PickSlotsModel" "text" "[I").before [.ref (a 0), .int x1].toArray s = true := hts _ (List.mem_of_getElem? (i := 2) rfl)
  have hi6 : ∀ w ∈ wsX60, w ∈ wsX6_type := fun w h => List.mem_cons_of_mem _ (List.mem_append_right _ (h))
  have CF : CallFix p m c cX6_type 2 s [.ref (a 0), .int x1].toArray wsX6_type RX6 := ⟨hx, hb, hml, hown, hts⟩
  have hl := lv_entry ([.ref (a 0), .int x1]) (n := 2) (Nat.le_of_ble_eq_true rfl)
  rw [lg_entry_eq]
  generalize (lg_sl ([.ref (a 0), .int x1]) ++ List.replicate (2 - (lg_sl ([.ref (a 0), .int x1])).length) Slot.unset).toArray = ls at hl ⊢
  have hl : lv_has ls 2 [(0, .ref (a 0)), (1, .int x1)] := hl
  refine lv_iload_n hx hb dX6_type_0 rfl (lv_at hl 1 rfl) ?_
  refine lv_bipush (v := 32) hx hb dX6_type_1 (by decide) ?_
  refine lv_bipush (v := 126) hx hb dX6_type_3 (by decide) ?_
  refine roS CF (c_X6_in l D cI cC cW t _ _ _ ) (va_cwS 3 hts gX6_type_X6_in rfl rfl rfl (by decide +kernel) ⟨Nat.le_of_ble_eq_true rfl, Nat.le_of_ble_eq_true rfl⟩) vP_nil hK hX hS rfl hl.1 rfl (Nat.le_of_ble_eq_true rfl) dX6_type_5 ⟨Nat.zero_le _, Nat.zero_le _⟩ ?_
  refine lv_if_ne (tgt := 13) hx hb dX6_type_8 (by decide) (fun c8 => ?_) (fun c8 => ?_)
  · refine lv_aload_n hx hb dX6_type_13 rfl (lv_at hl 0 rfl) ?_
    refine va_get (D := D) (ci := 5) (C := RX6) (T := TX6) (N := 17) hx hb hts hi6 hown hK hP 0 md_0 rfl 5 (by decide) wd1 (fun _ h9 => h9) rfl dX6_type_14 ?_
    refine lv_bipush (v := 60) hx hb dX6_type_17 (by decide) ?_
    refine lv_icmp_ne (tgt := 25) hx hb dX6_type_19 (by decide) (fun c19 => ?_) (fun c19 => ?_)
    · refine lv_aload_n hx hb dX6_type_25 rfl (lv_at hl 0 rfl) ?_
      refine va_get (D := D) (ci := 5) (C := RX6) (T := TX6) (N := 17) hx hb hts hi6 hown hK hP 0 md_0 rfl 4 (by decide) wd2 (fun _ h9 => h9) rfl dX6_type_26 ?_
      refine lv_aload_n hx hb dX6_type_29 rfl (lv_at hl 0 rfl) ?_
      refine va_get (D := D) (ci := 5) (C := RX6) (T := TX6) (N := 17) hx hb hts hi6 hown hK hP 0 md_0 rfl 5 (by decide) wd1 (fun _ h9 => h9) rfl dX6_type_30 ?_
      refine lv_iload_n hx hb dX6_type_33 rfl (lv_at hl 1 rfl) ?_
      refine my_iast hx hb hK hP hD hS 4 0 md_4 rfl (md_s4 _ _) (ty60 hty c19) dX6_type_34 (fun H locs hP hD hS => ?_)
      refine lv_aload_n hx hb dX6_type_35 rfl (lv_at hl 0 rfl) ?_
      refine lv_dup hx hb dX6_type_36 rfl ?_
      refine va_get (D := D) (ci := 5) (C := RX6) (T := TX6) (N := 17) hx hb hts hi6 hown hK hP 0 md_0 rfl 5 (by decide) wd1 (fun _ h9 => h9) rfl dX6_type_37 ?_
      refine lv_iconst (v := 1) hx hb dX6_type_40 (by decide) ?_
      refine lv_iadd hx hb dX6_type_41 ?_
      refine my_put (D := D) (ci := 5) (C := RX6) (T := TX6) (N := 17) (ty := .int) hx hb hts hi6 tyX6 tyX6_ok nmX6 hown hK hP hD hS 0 md_0 rfl 5 (by decide) wd1 (fun _ h9 => h9) rfl (by decide +kernel) rfl rfl (Nat.le_of_ble_eq_true rfl) (md_f5 _) dX6_type_42 (fun H locs hP hD hS => ?_)
      refine lv_aload_n hx hb dX6_type_45 rfl (lv_at hl 0 rfl) ?_
      refine va_get (D := D) (ci := 5) (C := RX6) (T := TX6) (N := 17) hx hb hts hi6 hown hK hP 0 md_0 rfl 5 (by decide) wd1 (fun _ h9 => h9) rfl dX6_type_46 ?_
      exact rw_ret _ hx hb hr hP hD hS (Eq.trans (if_neg c8) (Eq.trans (if_neg c19) (rfl))) dX6_type_49 hlocks
    · refine lv_bipush (v := -3) hx hb dX6_type_22 (by decide) ?_
      exact rw_ret _ hx hb hr hP hD hS (Eq.trans (if_neg c8) (Eq.trans (if_pos c19) (rfl))) dX6_type_24 hlocks
  · refine lv_iconst (v := -1) hx hb dX6_type_11 (by decide) ?_
    exact rw_ret _ hx hb hr hP hD hS (Eq.trans (if_pos c8) (rfl)) dX6_type_12 hlocks
